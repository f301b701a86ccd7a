theorem dX10_givenAt_32 : decode cX10_givenAt 32 = .ok (.aload_n 0, 1) := by decide +kernel
theorem dX10_givenAt_33 : decode cX10_givenAt 33 = .ok (.getfield 87, 3) := by decide +kernel
theorem dX10_givenAt_36 : decode cX10_givenAt 36 = .ok (.iload 6, 2) := by decide +kernel
theorem dX10_givenAt_38 : decode cX10_givenAt 38 = .ok (.laload, 1) := by decide +kernel
theorem dX10_givenAt_39 : decode cX10_givenAt 39 = .ok (.lload_n 2, 1) := by decide +kernel
theorem dX10_givenAt_40 : decode cX10_givenAt 40 = .ok (.lcmp, 1) := by decide +kernel
theorem dX10_givenAt_41 : decode cX10_givenAt 41 = .ok (.ifCond .ge 13, 3) := by decide +kernel
theorem dX10_givenAt_44 : decode cX10_givenAt 44 = .ok (.aload_n 0, 1) := by decide +kernel
theorem dX10_givenAt_45 : decode cX10_givenAt 45 = .ok (.getfield 87, 3) := by decide +kernel
theorem dX10_givenAt_48 : decode cX10_givenAt 48 = .ok (.iload 6, 2) := by decide +kernel
theorem dX10_givenAt_50 : decode cX10_givenAt 50 = .ok (.laload, 1) := by decide +kernel
theorem dX10_givenAt_51 : decode cX10_givenAt 51 = .ok (.goto 4, 3) := by decide +kernel
theorem dX10_givenAt_54 : decode cX10_givenAt 54 = .ok (.lload_n 2, 1) := by decide +kernel
theorem dX10_givenAt_55 : decode cX10_givenAt 55 = .ok (.ladd, 1) := by decide +kernel
theorem dX10_givenAt_56 : decode cX10_givenAt 56 = .ok (.lstore 4, 2) := by decide +kernel
theorem dX10_givenAt_58 : decode cX10_givenAt 58 = .ok (.iinc 6 1, 3) := by decide +kernel
theorem dX10_givenAt_61 : decode cX10_givenAt 61 = .ok (.goto (-55), 3) := by decide +kernel
theorem dX10_givenAt_64 : decode cX10_givenAt 64 = .ok (.lload 4, 2) := by decide +kernel
theorem dX10_givenAt_66 : decode cX10_givenAt 66 = .ok (.lreturn, 1) := by decide +kernel
theorem dX10_stand_0 : decode cX10_stand 0 = .ok (.lconst 0, 1) := by decide +kernel
theorem dX10_stand_1 : decode cX10_stand 1 = .ok (.lstore_n 2, 1) := by decide +kernel
theorem dX10_stand_2 : decode cX10_stand 2 = .ok (.lconst 0, 1) := by decide +kernel
theorem dX10_stand_3 : decode cX10_stand 3 = .ok (.lstore 4, 2) := by decide +kernel
theorem dX10_stand_5 : decode cX10_stand 5 = .ok (.iconst 0, 1) := by decide +kernel
theorem dX10_stand_6 : decode cX10_stand 6 = .ok (.istore 6, 2) := by decide +kernel
theorem dX10_stand_8 : decode cX10_stand 8 = .ok (.iload 6, 2) := by decide +kernel
theorem dX10_stand_10 : decode cX10_stand 10 = .ok (.aload_n 0, 1) := by decide +kernel
theorem dX10_stand_11 : decode cX10_stand 11 = .ok (.getfield 129, 3) := by decide +kernel
theorem dX10_stand_14 : decode cX10_stand 14 = .ok (.if_icmp .ge 72, 3) := by decide +kernel
theorem dX10_stand_17 : decode cX10_stand 17 = .ok (.lload_n 2, 1) := by decide +kernel
theorem dX10_stand_18 : decode cX10_stand 18 = .ok (.aload_n 0, 1) := by decide +kernel
theorem dX10_stand_19 : decode cX10_stand 19 = .ok (.getfield 7, 3) := by decide +kernel
theorem dX10_stand_22 : decode cX10_stand 22 = .ok (.iload 6, 2) := by decide +kernel
theorem dX10_stand_24 : decode cX10_stand 24 = .ok (.iaload, 1) := by decide +kernel
theorem dX10_stand_25 : decode cX10_stand 25 = .ok (.iload_n 1, 1) := by decide +kernel
theorem dX10_stand_26 : decode cX10_stand 26 = .ok (.if_icmp .ne 13, 3) := by decide +kernel
theorem dX10_stand_29 : decode cX10_stand 29 = .ok (.aload_n 0, 1) := by decide +kernel
theorem dX10_stand_30 : decode cX10_stand 30 = .ok (.getfield 93, 3) := by decide +kernel
theorem dX10_stand_33 : decode cX10_stand 33 = .ok (.iload 6, 2) := by decide +kernel
theorem dX10_stand_35 : decode cX10_stand 35 = .ok (.laload, 1) := by decide +kernel
theorem dX10_stand_36 : decode cX10_stand 36 = .ok (.goto 4, 3) := by decide +kernel
theorem dX10_stand_39 : decode cX10_stand 39 = .ok (.lconst 0, 1) := by decide +kernel
theorem dX10_stand_40 : decode cX10_stand 40 = .ok (.ladd, 1) := by decide +kernel
theorem dX10_stand_41 : decode cX10_stand 41 = .ok (.lstore_n 2, 1) := by decide +kernel
theorem dX10_stand_42 : decode cX10_stand 42 = .ok (.aload_n 0, 1) := by decide +kernel
theorem dX10_stand_43 : decode cX10_stand 43 = .ok (.getfield 7, 3) := by decide +kernel
theorem dX10_stand_46 : decode cX10_stand 46 = .ok (.iload 6, 2) := by decide +kernel
theorem dX10_stand_48 : decode cX10_stand 48 = .ok (.iaload, 1) := by decide +kernel
theorem dX10_stand_49 : decode cX10_stand 49 = .ok (.iload_n 1, 1) := by decide +kernel
theorem dX10_stand_50 : decode cX10_stand 50 = .ok (.if_icmp .ne 26, 3) := by decide +kernel
theorem dX10_stand_53 : decode cX10_stand 53 = .ok (.aload_n 0, 1) := by decide +kernel
theorem dX10_stand_54 : decode cX10_stand 54 = .ok (.getfield 87, 3) := by decide +kernel
theorem dX10_stand_57 : decode cX10_stand 57 = .ok (.iload 6, 2) := by decide +kernel
theorem dX10_stand_59 : decode cX10_stand 59 = .ok (.laload, 1) := by decide +kernel
theorem dX10_stand_60 : decode cX10_stand 60 = .ok (.lload 4, 2) := by decide +kernel
theorem dX10_stand_62 : decode cX10_stand 62 = .ok (.lcmp, 1) := by decide +kernel
theorem dX10_stand_63 : decode cX10_stand 63 = .ok (.ifCond .le 13, 3) := by decide +kernel
theorem dX10_stand_66 : decode cX10_stand 66 = .ok (.aload_n 0, 1) := by decide +kernel
theorem dX10_stand_67 : decode cX10_stand 67 = .ok (.getfield 87, 3) := by decide +kernel
theorem dX10_stand_70 : decode cX10_stand 70 = .ok (.iload 6, 2) := by decide +kernel
theorem dX10_stand_72 : decode cX10_stand 72 = .ok (.laload, 1) := by decide +kernel
theorem dX10_stand_73 : decode cX10_stand 73 = .ok (.goto 5, 3) := by decide +kernel
theorem dX10_stand_76 : decode cX10_stand 76 = .ok (.lload 4, 2) := by decide +kernel
theorem dX10_stand_78 : decode cX10_stand 78 = .ok (.lstore 4, 2) := by decide +kernel
theorem dX10_stand_80 : decode cX10_stand 80 = .ok (.iinc 6 1, 3) := by decide +kernel
theorem dX10_stand_83 : decode cX10_stand 83 = .ok (.goto (-75), 3) := by decide +kernel
theorem dX10_stand_86 : decode cX10_stand 86 = .ok (.lconst 0, 1) := by decide +kernel
theorem dX10_stand_87 : decode cX10_stand 87 = .ok (.lstore 6, 2) := by decide +kernel
theorem dX10_stand_89 : decode cX10_stand 89 = .ok (.lload 4, 2) := by decide +kernel
theorem dX10_stand_91 : decode cX10_stand 91 = .ok (.lconst 1, 1) := by decide +kernel
theorem dX10_stand_92 : decode cX10_stand 92 = .ok (.ladd, 1) := by decide +kernel
theorem dX10_stand_93 : decode cX10_stand 93 = .ok (.lstore 8, 2) := by decide +kernel
theorem dX10_stand_95 : decode cX10_stand 95 = .ok (.lload 8, 2) := by decide +kernel
theorem dX10_stand_97 : decode cX10_stand 97 = .ok (.lload 6, 2) := by decide +kernel
theorem dX10_stand_99 : decode cX10_stand 99 = .ok (.lsub, 1) := by decide +kernel
theorem dX10_stand_100 : decode cX10_stand 100 = .ok (.lconst 1, 1) := by decide +kernel
theorem dX10_stand_101 : decode cX10_stand 101 = .ok (.lcmp, 1) := by decide +kernel
theorem dX10_stand_102 : decode cX10_stand 102 = .ok (.ifCond .le 40, 3) := by decide +kernel
theorem dX10_stand_105 : decode cX10_stand 105 = .ok (.lload 6, 2) := by decide +kernel
theorem dX10_stand_107 : decode cX10_stand 107 = .ok (.lload 8, 2) := by decide +kernel
theorem dX10_stand_109 : decode cX10_stand 109 = .ok (.ladd, 1) := by decide +kernel
theorem dX10_stand_110 : decode cX10_stand 110 = .ok (.ldc2_w 243, 3) := by decide +kernel
theorem dX10_stand_113 : decode cX10_stand 113 = .ok (.ldiv, 1) := by decide +kernel
theorem dX10_stand_114 : decode cX10_stand 114 = .ok (.lstore 10, 2) := by decide +kernel
theorem dX10_stand_116 : decode cX10_stand 116 = .ok (.aload_n 0, 1) := by decide +kernel
theorem dX10_stand_117 : decode cX10_stand 117 = .ok (.iload_n 1, 1) := by decide +kernel
theorem dX10_stand_118 : decode cX10_stand 118 = .ok (.lload 10, 2) := by decide +kernel
theorem dX10_stand_120 : decode cX10_stand 120 = .ok (.invokevirtual 245, 3) := by decide +kernel
theorem dX10_stand_123 : decode cX10_stand 123 = .ok (.lload_n 2, 1) := by decide +kernel
theorem dX10_stand_124 : decode cX10_stand 124 = .ok (.lcmp, 1) := by decide +kernel
theorem dX10_stand_125 : decode cX10_stand 125 = .ok (.ifCond .gt 10, 3) := by decide +kernel
theorem dX10_stand_128 : decode cX10_stand 128 = .ok (.lload 10, 2) := by decide +kernel
theorem dX10_stand_130 : decode cX10_stand 130 = .ok (.lstore 6, 2) := by decide +kernel
theorem dX10_stand_132 : decode cX10_stand 132 = .ok (.goto 7, 3) := by decide +kernel
theorem dX10_stand_135 : decode cX10_stand 135 = .ok (.lload 10, 2) := by decide +kernel
theorem dX10_stand_137 : decode cX10_stand 137 = .ok (.lstore 8, 2) := by decide +kernel
theorem dX10_stand_139 : decode cX10_stand 139 = .ok (.goto (-44), 3) := by decide +kernel
theorem dX10_stand_142 : decode cX10_stand 142 = .ok (.lload_n 2, 1) := by decide +kernel
theorem dX10_stand_143 : decode cX10_stand 143 = .ok (.aload_n 0, 1) := by decide +kernel
theorem dX10_stand_144 : decode cX10_stand 144 = .ok (.iload_n 1, 1) := by decide +kernel
theorem dX10_stand_145 : decode cX10_stand 145 = .ok (.lload 6, 2) := by decide +kernel
theorem dX10_stand_147 : decode cX10_stand 147 = .ok (.invokevirtual 245, 3) := by decide +kernel
theorem dX10_stand_150 : decode cX10_stand 150 = .ok (.lsub, 1) := by decide +kernel
theorem dX10_stand_151 : decode cX10_stand 151 = .ok (.lstore 10, 2) := by decide +kernel
theorem dX10_stand_153 : decode cX10_stand 153 = .ok (.lconst 0, 1) := by decide +kernel
theorem dX10_stand_154 : decode cX10_stand 154 = .ok (.lstore 12, 2) := by decide +kernel
theorem dX10_stand_156 : decode cX10_stand 156 = .ok (.iconst 0, 1) := by decide +kernel
theorem dX10_stand_157 : decode cX10_stand 157 = .ok (.istore 14, 2) := by decide +kernel
theorem dX10_stand_159 : decode cX10_stand 159 = .ok (.iload 14, 2) := by decide +kernel
theorem dX10_stand_161 : decode cX10_stand 161 = .ok (.aload_n 0, 1) := by decide +kernel
theorem dX10_stand_162 : decode cX10_stand 162 = .ok (.getfield 129, 3) := by decide +kernel
theorem dX10_stand_165 : decode cX10_stand 165 = .ok (.if_icmp .ge 117, 3) := by decide +kernel
theorem dX10_stand_168 : decode cX10_stand 168 = .ok (.aload_n 0, 1) := by decide +kernel
theorem dX10_stand_169 : decode cX10_stand 169 = .ok (.getfield 7, 3) := by decide +kernel
theorem dX10_stand_172 : decode cX10_stand 172 = .ok (.iload 14, 2) := by decide +kernel
theorem dX10_stand_174 : decode cX10_stand 174 = .ok (.iaload, 1) := by decide +kernel
theorem dX10_stand_175 : decode cX10_stand 175 = .ok (.iload_n 1, 1) := by decide +kernel
theorem dX10_stand_176 : decode cX10_stand 176 = .ok (.if_icmp .ne 100, 3) := by decide +kernel
theorem dX10_stand_179 : decode cX10_stand 179 = .ok (.aload_n 0, 1) := by decide +kernel
theorem dX10_stand_180 : decode cX10_stand 180 = .ok (.getfield 87, 3) := by decide +kernel
theorem dX10_stand_183 : decode cX10_stand 183 = .ok (.iload 14, 2) := by decide +kernel
theorem dX10_stand_185 : decode cX10_stand 185 = .ok (.laload, 1) := by decide +kernel
theorem dX10_stand_186 : decode cX10_stand 186 = .ok (.lload 6, 2) := by decide +kernel
theorem dX10_stand_188 : decode cX10_stand 188 = .ok (.lcmp, 1) := by decide +kernel
theorem dX10_stand_189 : decode cX10_stand 189 = .ok (.ifCond .le 14, 3) := by decide +kernel
theorem dX10_stand_192 : decode cX10_stand 192 = .ok (.lload 10, 2) := by decide +kernel
theorem dX10_stand_194 : decode cX10_stand 194 = .ok (.lconst 0, 1) := by decide +kernel
theorem dX10_stand_195 : decode cX10_stand 195 = .ok (.lcmp, 1) := by decide +kernel
theorem dX10_stand_196 : decode cX10_stand 196 = .ok (.ifCond .le 7, 3) := by decide +kernel
theorem dX10_stand_199 : decode cX10_stand 199 = .ok (.iconst 1, 1) := by decide +kernel
theorem dX10_stand_200 : decode cX10_stand 200 = .ok (.goto 4, 3) := by decide +kernel
theorem dX10_stand_203 : decode cX10_stand 203 = .ok (.iconst 0, 1) := by decide +kernel
theorem dX10_stand_204 : decode cX10_stand 204 = .ok (.istore 15, 2) := by decide +kernel
theorem dX10_stand_206 : decode cX10_stand 206 = .ok (.aload_n 0, 1) := by decide +kernel
theorem dX10_stand_207 : decode cX10_stand 207 = .ok (.getfield 90, 3) := by decide +kernel
theorem dX10_stand_210 : decode cX10_stand 210 = .ok (.iload 14, 2) := by decide +kernel
theorem dX10_stand_212 : decode cX10_stand 212 = .ok (.aload_n 0, 1) := by decide +kernel
theorem dX10_stand_213 : decode cX10_stand 213 = .ok (.getfield 87, 3) := by decide +kernel
theorem dX10_stand_216 : decode cX10_stand 216 = .ok (.iload 14, 2) := by decide +kernel
theorem dX10_stand_218 : decode cX10_stand 218 = .ok (.laload, 1) := by decide +kernel
theorem dX10_stand_219 : decode cX10_stand 219 = .ok (.lload 6, 2) := by decide +kernel
theorem dX10_stand_221 : decode cX10_stand 221 = .ok (.lcmp, 1) := by decide +kernel
theorem dX10_stand_222 : decode cX10_stand 222 = .ok (.ifCond .ge 13, 3) := by decide +kernel
theorem dX10_stand_225 : decode cX10_stand 225 = .ok (.aload_n 0, 1) := by decide +kernel
theorem dX10_stand_226 : decode cX10_stand 226 = .ok (.getfield 87, 3) := by decide +kernel
theorem dX10_stand_229 : decode cX10_stand 229 = .ok (.iload 14, 2) := by decide +kernel
theorem dX10_stand_231 : decode cX10_stand 231 = .ok (.laload, 1) := by decide +kernel
theorem dX10_stand_232 : decode cX10_stand 232 = .ok (.goto 5, 3) := by decide +kernel
theorem dX10_stand_235 : decode cX10_stand 235 = .ok (.lload 6, 2) := by decide +kernel
theorem dX10_stand_237 : decode cX10_stand 237 = .ok (.iload 15, 2) := by decide +kernel
theorem dX10_stand_239 : decode cX10_stand 239 = .ok (.ifCond .eq 7, 3) := by decide +kernel
theorem dX10_stand_242 : decode cX10_stand 242 = .ok (.lconst 1, 1) := by decide +kernel
theorem dX10_stand_243 : decode cX10_stand 243 = .ok (.goto 4, 3) := by decide +kernel
theorem dX10_stand_246 : decode cX10_stand 246 = .ok (.lconst 0, 1) := by decide +kernel
theorem dX10_stand_247 : decode cX10_stand 247 = .ok (.ladd, 1) := by decide +kernel
theorem dX10_stand_248 : decode cX10_stand 248 = .ok (.lastore, 1) := by decide +kernel
theorem dX10_stand_249 : decode cX10_stand 249 = .ok (.lload 10, 2) := by decide +kernel
theorem dX10_stand_251 : decode cX10_stand 251 = .ok (.iload 15, 2) := by decide +kernel
theorem dX10_stand_253 : decode cX10_stand 253 = .ok (.ifCond .eq 7, 3) := by decide +kernel
theorem dX10_stand_256 : decode cX10_stand 256 = .ok (.lconst 1, 1) := by decide +kernel
theorem dX10_stand_257 : decode cX10_stand 257 = .ok (.goto 4, 3) := by decide +kernel
theorem dX10_stand_260 : decode cX10_stand 260 = .ok (.lconst 0, 1) := by decide +kernel
theorem dX10_stand_261 : decode cX10_stand 261 = .ok (.lsub, 1) := by decide +kernel
theorem dX10_stand_262 : decode cX10_stand 262 = .ok (.lstore 10, 2) := by decide +kernel
theorem dX10_stand_264 : decode cX10_stand 264 = .ok (.lload 12, 2) := by decide +kernel
theorem dX10_stand_266 : decode cX10_stand 266 = .ok (.aload_n 0, 1) := by decide +kernel
theorem dX10_stand_267 : decode cX10_stand 267 = .ok (.getfield 90, 3) := by decide +kernel
theorem dX10_stand_270 : decode cX10_stand 270 = .ok (.iload 14, 2) := by decide +kernel
theorem dX10_stand_272 : decode cX10_stand 272 = .ok (.laload, 1) := by decide +kernel
theorem dX10_stand_273 : decode cX10_stand 273 = .ok (.ladd, 1) := by decide +kernel
theorem dX10_stand_274 : decode cX10_stand 274 = .ok (.lstore 12, 2) := by decide +kernel
theorem dX10_stand_276 : decode cX10_stand 276 = .ok (.iinc 14 1, 3) := by decide +kernel
theorem dX10_stand_279 : decode cX10_stand 279 = .ok (.goto (-120), 3) := by decide +kernel
theorem dX10_stand_282 : decode cX10_stand 282 = .ok (.iconst 0, 1) := by decide +kernel
theorem dX10_stand_283 : decode cX10_stand 283 = .ok (.istore 14, 2) := by decide +kernel
theorem dX10_stand_285 : decode cX10_stand 285 = .ok (.iload 14, 2) := by decide +kernel
theorem dX10_stand_287 : decode cX10_stand 287 = .ok (.aload_n 0, 1) := by decide +kernel
theorem dX10_stand_288 : decode cX10_stand 288 = .ok (.getfield 129, 3) := by decide +kernel
theorem dX10_stand_291 : decode cX10_stand 291 = .ok (.if_icmp .ge 66, 3) := by decide +kernel
theorem dX10_stand_294 : decode cX10_stand 294 = .ok (.aload_n 0, 1) := by decide +kernel
theorem dX10_stand_295 : decode cX10_stand 295 = .ok (.getfield 7, 3) := by decide +kernel
theorem dX10_stand_298 : decode cX10_stand 298 = .ok (.iload 14, 2) := by decide +kernel
theorem dX10_stand_300 : decode cX10_stand 300 = .ok (.iaload, 1) := by decide +kernel
theorem dX10_stand_301 : decode cX10_stand 301 = .ok (.iload_n 1, 1) := by decide +kernel
theorem dX10_stand_302 : decode cX10_stand 302 = .ok (.if_icmp .ne 49, 3) := by decide +kernel
theorem dX10_stand_305 : decode cX10_stand 305 = .ok (.aload_n 0, 1) := by decide +kernel
theorem dX10_stand_306 : decode cX10_stand 306 = .ok (.getfield 93, 3) := by decide +kernel
theorem dX10_stand_309 : decode cX10_stand 309 = .ok (.iload 14, 2) := by decide +kernel
theorem dX10_stand_311 : decode cX10_stand 311 = .ok (.laload, 1) := by decide +kernel
theorem dX10_stand_312 : decode cX10_stand 312 = .ok (.lload 12, 2) := by decide +kernel
theorem dX10_stand_314 : decode cX10_stand 314 = .ok (.lcmp, 1) := by decide +kernel
theorem dX10_stand_315 : decode cX10_stand 315 = .ok (.ifCond .ge 13, 3) := by decide +kernel
theorem dX10_stand_318 : decode cX10_stand 318 = .ok (.aload_n 0, 1) := by decide +kernel
theorem dX10_stand_319 : decode cX10_stand 319 = .ok (.getfield 93, 3) := by decide +kernel
theorem dX10_stand_322 : decode cX10_stand 322 = .ok (.iload 14, 2) := by decide +kernel
theorem dX10_stand_324 : decode cX10_stand 324 = .ok (.laload, 1) := by decide +kernel
theorem dX10_stand_325 : decode cX10_stand 325 = .ok (.goto 5, 3) := by decide +kernel
theorem dX10_stand_328 : decode cX10_stand 328 = .ok (.lload 12, 2) := by decide +kernel
theorem dX10_stand_330 : decode cX10_stand 330 = .ok (.lstore 15, 2) := by decide +kernel
theorem dX10_stand_332 : decode cX10_stand 332 = .ok (.aload_n 0, 1) := by decide +kernel
theorem dX10_stand_333 : decode cX10_stand 333 = .ok (.getfield 93, 3) := by decide +kernel
theorem dX10_stand_336 : decode cX10_stand 336 = .ok (.iload 14, 2) := by decide +kernel
theorem dX10_stand_338 : decode cX10_stand 338 = .ok (.dup2, 1) := by decide +kernel
theorem dX10_stand_339 : decode cX10_stand 339 = .ok (.laload, 1) := by decide +kernel
theorem dX10_stand_340 : decode cX10_stand 340 = .ok (.lload 15, 2) := by decide +kernel
theorem dX10_stand_342 : decode cX10_stand 342 = .ok (.lsub, 1) := by decide +kernel
theorem dX10_stand_343 : decode cX10_stand 343 = .ok (.lastore, 1) := by decide +kernel
theorem dX10_stand_344 : decode cX10_stand 344 = .ok (.lload 12, 2) := by decide +kernel
theorem dX10_stand_346 : decode cX10_stand 346 = .ok (.lload 15, 2) := by decide +kernel
theorem dX10_stand_348 : decode cX10_stand 348 = .ok (.lsub, 1) := by decide +kernel
theorem dX10_stand_349 : decode cX10_stand 349 = .ok (.lstore 12, 2) := by decide +kernel
theorem dX10_stand_351 : decode cX10_stand 351 = .ok (.iinc 14 1, 3) := by decide +kernel
theorem dX10_stand_354 : decode cX10_stand 354 = .ok (.goto (-69), 3) := by decide +kernel
theorem dX10_stand_357 : decode cX10_stand 357 = .ok (.return_, 1) := by decide +kernel
theorem dX10_bears_0 : decode cX10_bears 0 = .ok (.aload_n 0, 1) := by decide +kernel
theorem dX10_bears_1 : decode cX10_bears 1 = .ok (.iconst 0, 1) := by decide +kernel
theorem dX10_bears_2 : decode cX10_bears 2 = .ok (.putfield 117, 3) := by decide +kernel
theorem dX10_bears_5 : decode cX10_bears 5 = .ok (.iload_n 1, 1) := by decide +kernel
theorem dX10_bears_6 : decode cX10_bears 6 = .ok (.i2l, 1) := by decide +kernel
theorem dX10_bears_7 : decode cX10_bears 7 = .ok (.lconst 0, 1) := by decide +kernel
theorem dX10_bears_8 : decode cX10_bears 8 = .ok (.ldc2_w 191, 3) := by decide +kernel
theorem dX10_bears_11 : decode cX10_bears 11 = .ok (.invokestatic 125, 3) := by decide +kernel
theorem dX10_bears_14 : decode cX10_bears 14 = .ok (.ifCond .ne 9, 3) := by decide +kernel
theorem dX10_bears_17 : decode cX10_bears 17 = .ok (.aload_n 0, 1) := by decide +kernel
theorem dX10_bears_18 : decode cX10_bears 18 = .ok (.iconst (-1), 1) := by decide +kernel
theorem dX10_bears_19 : decode cX10_bears 19 = .ok (.invokevirtual 138, 3) := by decide +kernel
theorem dX10_bears_22 : decode cX10_bears 22 = .ok (.ireturn, 1) := by decide +kernel
theorem dX10_bears_23 : decode cX10_bears 23 = .ok (.aload_n 0, 1) := by decide +kernel
theorem dX10_bears_24 : decode cX10_bears 24 = .ok (.getfield 249, 3) := by decide +kernel
theorem dX10_bears_27 : decode cX10_bears 27 = .ok (.istore_n 2, 1) := by decide +kernel
theorem dX10_bears_28 : decode cX10_bears 28 = .ok (.aload_n 0, 1) := by decide +kernel
theorem dX10_bears_29 : decode cX10_bears 29 = .ok (.iload_n 1, 1) := by decide +kernel
theorem dX10_bears_30 : decode cX10_bears 30 = .ok (.putfield 249, 3) := by decide +kernel
theorem dX10_bears_33 : decode cX10_bears 33 = .ok (.aload_n 0, 1) := by decide +kernel
theorem dX10_bears_34 : decode cX10_bears 34 = .ok (.iload_n 2, 1) := by decide +kernel
theorem dX10_bears_35 : decode cX10_bears 35 = .ok (.invokevirtual 138, 3) := by decide +kernel
theorem dX10_bears_38 : decode cX10_bears 38 = .ok (.ireturn, 1) := by decide +kernel
theorem dX10_drought_0 : decode cX10_drought 0 = .ok (.aload_n 0, 1) := by decide +kernel
theorem dX10_drought_1 : decode cX10_drought 1 = .ok (.iconst 0, 1) := by decide +kernel
theorem dX10_drought_2 : decode cX10_drought 2 = .ok (.putfield 117, 3) := by decide +kernel
theorem dX10_drought_5 : decode cX10_drought 5 = .ok (.iload_n 1, 1) := by decide +kernel
theorem dX10_drought_6 : decode cX10_drought 6 = .ok (.i2l, 1) := by decide +kernel
theorem dX10_drought_7 : decode cX10_drought 7 = .ok (.lconst 0, 1) := by decide +kernel
theorem dX10_drought_8 : decode cX10_drought 8 = .ok (.ldc2_w 134, 3) := by decide +kernel
theorem dX10_drought_11 : decode cX10_drought 11 = .ok (.invokestatic 125, 3) := by decide +kernel
theorem dX10_drought_14 : decode cX10_drought 14 = .ok (.ifCond .eq 28, 3) := by decide +kernel
theorem dX10_drought_17 : decode cX10_drought 17 = .ok (.iload_n 2, 1) := by decide +kernel
theorem dX10_drought_18 : decode cX10_drought 18 = .ok (.i2l, 1) := by decide +kernel
theorem dX10_drought_19 : decode cX10_drought 19 = .ok (.iload_n 1, 1) := by decide +kernel
theorem dX10_drought_20 : decode cX10_drought 20 = .ok (.i2l, 1) := by decide +kernel
theorem dX10_drought_21 : decode cX10_drought 21 = .ok (.ldc2_w 134, 3) := by decide +kernel
theorem dX10_drought_24 : decode cX10_drought 24 = .ok (.invokestatic 125, 3) := by decide +kernel
theorem dX10_drought_27 : decode cX10_drought 27 = .ok (.ifCond .eq 15, 3) := by decide +kernel
theorem dX10_drought_30 : decode cX10_drought 30 = .ok (.iload_n 3, 1) := by decide +kernel
theorem dX10_drought_31 : decode cX10_drought 31 = .ok (.i2l, 1) := by decide +kernel
theorem dX10_drought_32 : decode cX10_drought 32 = .ok (.lconst 0, 1) := by decide +kernel
theorem dX10_drought_33 : decode cX10_drought 33 = .ok (.ldc2_w 252, 3) := by decide +kernel
theorem dX10_drought_36 : decode cX10_drought 36 = .ok (.invokestatic 125, 3) := by decide +kernel
theorem dX10_drought_39 : decode cX10_drought 39 = .ok (.ifCond .ne 9, 3) := by decide +kernel
theorem dX10_drought_42 : decode cX10_drought 42 = .ok (.aload_n 0, 1) := by decide +kernel
theorem dX10_drought_43 : decode cX10_drought 43 = .ok (.iconst (-1), 1) := by decide +kernel
theorem dX10_drought_44 : decode cX10_drought 44 = .ok (.invokevirtual 138, 3) := by decide +kernel
theorem dX10_drought_47 : decode cX10_drought 47 = .ok (.ireturn, 1) := by decide +kernel
theorem dX10_drought_48 : decode cX10_drought 48 = .ok (.aload_n 0, 1) := by decide +kernel
theorem dX10_drought_49 : decode cX10_drought 49 = .ok (.getfield 254, 3) := by decide +kernel
theorem dX10_drought_52 : decode cX10_drought 52 = .ok (.bipush 60, 2) := by decide +kernel
theorem dX10_drought_54 : decode cX10_drought 54 = .ok (.if_icmp .ne 10, 3) := by decide +kernel
theorem dX10_drought_57 : decode cX10_drought 57 = .ok (.aload_n 0, 1) := by decide +kernel
theorem dX10_drought_58 : decode cX10_drought 58 = .ok (.bipush (-5), 2) := by decide +kernel
theorem dX10_drought_60 : decode cX10_drought 60 = .ok (.invokevirtual 138, 3) := by decide +kernel
theorem dX10_drought_63 : decode cX10_drought 63 = .ok (.ireturn, 1) := by decide +kernel
theorem dX10_drought_64 : decode cX10_drought 64 = .ok (.aload_n 0, 1) := by decide +kernel
theorem dX10_drought_65 : decode cX10_drought 65 = .ok (.getfield 96, 3) := by decide +kernel
theorem dX10_drought_68 : decode cX10_drought 68 = .ok (.aload_n 0, 1) := by decide +kernel
theorem dX10_drought_69 : decode cX10_drought 69 = .ok (.getfield 254, 3) := by decide +kernel
theorem dX10_drought_72 : decode cX10_drought 72 = .ok (.iload_n 1, 1) := by decide +kernel
theorem dX10_drought_73 : decode cX10_drought 73 = .ok (.iastore, 1) := by decide +kernel
theorem dX10_drought_74 : decode cX10_drought 74 = .ok (.aload_n 0, 1) := by decide +kernel
theorem dX10_drought_75 : decode cX10_drought 75 = .ok (.getfield 99, 3) := by decide +kernel
theorem dX10_drought_78 : decode cX10_drought 78 = .ok (.aload_n 0, 1) := by decide +kernel
theorem dX10_drought_79 : decode cX10_drought 79 = .ok (.getfield 254, 3) := by decide +kernel
theorem dX10_drought_82 : decode cX10_drought 82 = .ok (.iload_n 2, 1) := by decide +kernel
theorem dX10_drought_83 : decode cX10_drought 83 = .ok (.iastore, 1) := by decide +kernel
theorem dX10_drought_84 : decode cX10_drought 84 = .ok (.aload_n 0, 1) := by decide +kernel
theorem dX10_drought_85 : decode cX10_drought 85 = .ok (.getfield 102, 3) := by decide +kernel
theorem dX10_drought_88 : decode cX10_drought 88 = .ok (.aload_n 0, 1) := by decide +kernel
theorem dX10_drought_89 : decode cX10_drought 89 = .ok (.getfield 254, 3) := by decide +kernel
theorem dX10_drought_92 : decode cX10_drought 92 = .ok (.iload_n 3, 1) := by decide +kernel
theorem dX10_drought_93 : decode cX10_drought 93 = .ok (.iastore, 1) := by decide +kernel
theorem dX10_drought_94 : decode cX10_drought 94 = .ok (.aload_n 0, 1) := by decide +kernel
theorem dX10_drought_95 : decode cX10_drought 95 = .ok (.dup, 1) := by decide +kernel
theorem dX10_drought_96 : decode cX10_drought 96 = .ok (.getfield 254, 3) := by decide +kernel
theorem dX10_drought_99 : decode cX10_drought 99 = .ok (.iconst 1, 1) := by decide +kernel
theorem dX10_drought_100 : decode cX10_drought 100 = .ok (.iadd, 1) := by decide +kernel
theorem dX10_drought_101 : decode cX10_drought 101 = .ok (.putfield 254, 3) := by decide +kernel
theorem dX10_drought_104 : decode cX10_drought 104 = .ok (.aload_n 0, 1) := by decide +kernel
theorem dX10_drought_105 : decode cX10_drought 105 = .ok (.aload_n 0, 1) := by decide +kernel
theorem dX10_drought_106 : decode cX10_drought 106 = .ok (.getfield 254, 3) := by decide +kernel
theorem dX10_drought_109 : decode cX10_drought 109 = .ok (.invokevirtual 138, 3) := by decide +kernel
theorem dX10_drought_112 : decode cX10_drought 112 = .ok (.ireturn, 1) := by decide +kernel
theorem dX10_foretold_0 : decode cX10_foretold 0 = .ok (.iconst 0, 1) := by decide +kernel
theorem dX10_foretold_1 : decode cX10_foretold 1 = .ok (.istore_n 2, 1) := by decide +kernel
theorem dX10_foretold_2 : decode cX10_foretold 2 = .ok (.iconst 0, 1) := by decide +kernel
theorem dX10_foretold_3 : decode cX10_foretold 3 = .ok (.istore_n 3, 1) := by decide +kernel
theorem dX10_foretold_4 : decode cX10_foretold 4 = .ok (.iload_n 3, 1) := by decide +kernel
theorem dX10_foretold_5 : decode cX10_foretold 5 = .ok (.aload_n 0, 1) := by decide +kernel
theorem dX10_foretold_6 : decode cX10_foretold 6 = .ok (.getfield 254, 3) := by decide +kernel
theorem dX10_foretold_9 : decode cX10_foretold 9 = .ok (.if_icmp .ge 47, 3) := by decide +kernel
theorem dX10_foretold_12 : decode cX10_foretold 12 = .ok (.aload_n 0, 1) := by decide +kernel
theorem dX10_foretold_13 : decode cX10_foretold 13 = .ok (.getfield 13, 3) := by decide +kernel
theorem dX10_foretold_16 : decode cX10_foretold 16 = .ok (.iload_n 1, 1) := by decide +kernel
theorem dX10_foretold_17 : decode cX10_foretold 17 = .ok (.iaload, 1) := by decide +kernel
theorem dX10_foretold_18 : decode cX10_foretold 18 = .ok (.i2l, 1) := by decide +kernel
theorem dX10_foretold_19 : decode cX10_foretold 19 = .ok (.aload_n 0, 1) := by decide +kernel
theorem dX10_foretold_20 : decode cX10_foretold 20 = .ok (.getfield 96, 3) := by decide +kernel
theorem dX10_foretold_23 : decode cX10_foretold 23 = .ok (.iload_n 3, 1) := by decide +kernel
theorem dX10_foretold_24 : decode cX10_foretold 24 = .ok (.iaload, 1) := by decide +kernel
theorem dX10_foretold_25 : decode cX10_foretold 25 = .ok (.i2l, 1) := by decide +kernel
theorem dX10_foretold_26 : decode cX10_foretold 26 = .ok (.aload_n 0, 1) := by decide +kernel
theorem dX10_foretold_27 : decode cX10_foretold 27 = .ok (.getfield 99, 3) := by decide +kernel
theorem dX10_foretold_30 : decode cX10_foretold 30 = .ok (.iload_n 3, 1) := by decide +kernel
theorem dX10_foretold_31 : decode cX10_foretold 31 = .ok (.iaload, 1) := by decide +kernel
theorem dX10_foretold_32 : decode cX10_foretold 32 = .ok (.i2l, 1) := by decide +kernel
theorem dX10_foretold_33 : decode cX10_foretold 33 = .ok (.invokestatic 125, 3) := by decide +kernel
theorem dX10_foretold_36 : decode cX10_foretold 36 = .ok (.ifCond .eq 12, 3) := by decide +kernel
theorem dX10_foretold_39 : decode cX10_foretold 39 = .ok (.aload_n 0, 1) := by decide +kernel
theorem dX10_foretold_40 : decode cX10_foretold 40 = .ok (.getfield 102, 3) := by decide +kernel
theorem dX10_foretold_43 : decode cX10_foretold 43 = .ok (.iload_n 3, 1) := by decide +kernel
theorem dX10_foretold_44 : decode cX10_foretold 44 = .ok (.iaload, 1) := by decide +kernel
theorem dX10_foretold_45 : decode cX10_foretold 45 = .ok (.goto 4, 3) := by decide +kernel
theorem dX10_foretold_48 : decode cX10_foretold 48 = .ok (.iload_n 2, 1) := by decide +kernel
theorem dX10_foretold_49 : decode cX10_foretold 49 = .ok (.istore_n 2, 1) := by decide +kernel
theorem dX10_foretold_50 : decode cX10_foretold 50 = .ok (.iinc 3 1, 3) := by decide +kernel
theorem dX10_foretold_53 : decode cX10_foretold 53 = .ok (.goto (-49), 3) := by decide +kernel
theorem dX10_foretold_56 : decode cX10_foretold 56 = .ok (.aload_n 0, 1) := by decide +kernel
theorem dX10_foretold_57 : decode cX10_foretold 57 = .ok (.getfield 16, 3) := by decide +kernel
theorem dX10_foretold_60 : decode cX10_foretold 60 = .ok (.iload_n 1, 1) := by decide +kernel
theorem dX10_foretold_61 : decode cX10_foretold 61 = .ok (.iaload, 1) := by decide +kernel
theorem dX10_foretold_62 : decode cX10_foretold 62 = .ok (.i2l, 1) := by decide +kernel
theorem dX10_foretold_63 : decode cX10_foretold 63 = .ok (.aload_n 0, 1) := by decide +kernel
theorem dX10_foretold_64 : decode cX10_foretold 64 = .ok (.getfield 249, 3) := by decide +kernel
theorem dX10_foretold_67 : decode cX10_foretold 67 = .ok (.i2l, 1) := by decide +kernel
theorem dX10_foretold_68 : decode cX10_foretold 68 = .ok (.lmul, 1) := by decide +kernel
theorem dX10_foretold_69 : decode cX10_foretold 69 = .ok (.bipush 100, 2) := by decide +kernel
theorem dX10_foretold_71 : decode cX10_foretold 71 = .ok (.iload_n 2, 1) := by decide +kernel
theorem dX10_foretold_72 : decode cX10_foretold 72 = .ok (.isub, 1) := by decide +kernel
theorem dX10_foretold_73 : decode cX10_foretold 73 = .ok (.i2l, 1) := by decide +kernel
theorem dX10_foretold_74 : decode cX10_foretold 74 = .ok (.lmul, 1) := by decide +kernel
theorem dX10_foretold_75 : decode cX10_foretold 75 = .ok (.ldc2_w 252, 3) := by decide +kernel
theorem dX10_foretold_78 : decode cX10_foretold 78 = .ok (.ldiv, 1) := by decide +kernel
theorem dX10_foretold_79 : decode cX10_foretold 79 = .ok (.lreturn, 1) := by decide +kernel
theorem dX10_of_0 : decode cX10_of 0 = .ok (.aload_n 0, 1) := by decide +kernel
theorem dX10_of_1 : decode cX10_of 1 = .ok (.iconst 0, 1) := by decide +kernel
theorem dX10_of_2 : decode cX10_of 2 = .ok (.putfield 117, 3) := by decide +kernel
theorem dX10_of_5 : decode cX10_of 5 = .ok (.aload_n 0, 1) := by decide +kernel
theorem dX10_of_6 : decode cX10_of 6 = .ok (.iload_n 1, 1) := by decide +kernel
theorem dX10_of_7 : decode cX10_of 7 = .ok (.invokevirtual 148, 3) := by decide +kernel
theorem dX10_of_10 : decode cX10_of 10 = .ok (.ifCond .eq 10, 3) := by decide +kernel
theorem dX10_of_13 : decode cX10_of 13 = .ok (.iload_n 2, 1) := by decide +kernel
theorem dX10_of_14 : decode cX10_of 14 = .ok (.invokestatic 144, 3) := by decide +kernel
theorem dX10_of_17 : decode cX10_of 17 = .ok (.ifCond .ne 7, 3) := by decide +kernel
theorem dX10_of_20 : decode cX10_of 20 = .ok (.ldc2_w 189, 3) := by decide +kernel
theorem dX10_of_23 : decode cX10_of 23 = .ok (.lreturn, 1) := by decide +kernel
theorem dX10_of_24 : decode cX10_of 24 = .ok (.aload_n 0, 1) := by decide +kernel
theorem dX10_of_25 : decode cX10_of 25 = .ok (.iload_n 2, 1) := by decide +kernel
theorem dX10_of_26 : decode cX10_of 26 = .ok (.invokevirtual 257, 3) := by decide +kernel
theorem dX10_of_29 : decode cX10_of 29 = .ok (.iload_n 3, 1) := by decide +kernel
theorem dX10_of_30 : decode cX10_of 30 = .ok (.tableswitch 181 0 10 #[58, 65, 72, 79, 86, 100, 114, 121, 142, 149, 155], 58) := by decide +kernel
theorem dX10_of_88 : decode cX10_of 88 = .ok (.aload_n 0, 1) := by decide +kernel
theorem dX10_of_89 : decode cX10_of 89 = .ok (.getfield 68, 3) := by decide +kernel
theorem dX10_of_92 : decode cX10_of 92 = .ok (.iload_n 1, 1) := by decide +kernel
theorem dX10_of_93 : decode cX10_of 93 = .ok (.laload, 1) := by decide +kernel
theorem dX10_of_94 : decode cX10_of 94 = .ok (.lreturn, 1) := by decide +kernel
theorem dX10_of_95 : decode cX10_of 95 = .ok (.aload_n 0, 1) := by decide +kernel
theorem dX10_of_96 : decode cX10_of 96 = .ok (.getfield 72, 3) := by decide +kernel
theorem dX10_of_99 : decode cX10_of 99 = .ok (.iload_n 1, 1) := by decide +kernel
theorem dX10_of_100 : decode cX10_of 100 = .ok (.laload, 1) := by decide +kernel
theorem dX10_of_101 : decode cX10_of 101 = .ok (.lreturn, 1) := by decide +kernel
theorem dX10_of_102 : decode cX10_of 102 = .ok (.aload_n 0, 1) := by decide +kernel
theorem dX10_of_103 : decode cX10_of 103 = .ok (.getfield 75, 3) := by decide +kernel
theorem dX10_of_106 : decode cX10_of 106 = .ok (.iload_n 1, 1) := by decide +kernel
theorem dX10_of_107 : decode cX10_of 107 = .ok (.laload, 1) := by decide +kernel
theorem dX10_of_108 : decode cX10_of 108 = .ok (.lreturn, 1) := by decide +kernel
theorem dX10_of_109 : decode cX10_of 109 = .ok (.aload_n 0, 1) := by decide +kernel
theorem dX10_of_110 : decode cX10_of 110 = .ok (.getfield 78, 3) := by decide +kernel
theorem dX10_of_113 : decode cX10_of 113 = .ok (.iload_n 1, 1) := by decide +kernel
theorem dX10_of_114 : decode cX10_of 114 = .ok (.laload, 1) := by decide +kernel
theorem dX10_of_115 : decode cX10_of 115 = .ok (.lreturn, 1) := by decide +kernel
theorem dX10_of_116 : decode cX10_of 116 = .ok (.aload_n 0, 1) := by decide +kernel
theorem dX10_of_117 : decode cX10_of 117 = .ok (.getfield 75, 3) := by decide +kernel
theorem dX10_of_120 : decode cX10_of 120 = .ok (.iload_n 1, 1) := by decide +kernel
theorem dX10_of_121 : decode cX10_of 121 = .ok (.laload, 1) := by decide +kernel
theorem dX10_of_122 : decode cX10_of 122 = .ok (.aload_n 0, 1) := by decide +kernel
theorem dX10_of_123 : decode cX10_of 123 = .ok (.getfield 78, 3) := by decide +kernel
theorem dX10_of_126 : decode cX10_of 126 = .ok (.iload_n 1, 1) := by decide +kernel
theorem dX10_of_127 : decode cX10_of 127 = .ok (.laload, 1) := by decide +kernel
theorem dX10_of_128 : decode cX10_of 128 = .ok (.lsub, 1) := by decide +kernel
theorem dX10_of_129 : decode cX10_of 129 = .ok (.lreturn, 1) := by decide +kernel
theorem dX10_of_130 : decode cX10_of 130 = .ok (.aload_n 0, 1) := by decide +kernel
theorem dX10_of_131 : decode cX10_of 131 = .ok (.getfield 72, 3) := by decide +kernel
theorem dX10_of_134 : decode cX10_of 134 = .ok (.iload_n 1, 1) := by decide +kernel
theorem dX10_of_135 : decode cX10_of 135 = .ok (.laload, 1) := by decide +kernel
theorem dX10_of_136 : decode cX10_of 136 = .ok (.aload_n 0, 1) := by decide +kernel
theorem dX10_of_137 : decode cX10_of 137 = .ok (.getfield 78, 3) := by decide +kernel
theorem dX10_of_140 : decode cX10_of 140 = .ok (.iload_n 1, 1) := by decide +kernel
theorem dX10_of_141 : decode cX10_of 141 = .ok (.laload, 1) := by decide +kernel
theorem dX10_of_142 : decode cX10_of 142 = .ok (.lsub, 1) := by decide +kernel
theorem dX10_of_143 : decode cX10_of 143 = .ok (.lreturn, 1) := by decide +kernel
theorem dX10_of_144 : decode cX10_of 144 = .ok (.aload_n 0, 1) := by decide +kernel
theorem dX10_of_145 : decode cX10_of 145 = .ok (.getfield 90, 3) := by decide +kernel
theorem dX10_of_148 : decode cX10_of 148 = .ok (.iload_n 1, 1) := by decide +kernel
theorem dX10_of_149 : decode cX10_of 149 = .ok (.laload, 1) := by decide +kernel
theorem dX10_of_150 : decode cX10_of 150 = .ok (.lreturn, 1) := by decide +kernel
theorem dX10_of_151 : decode cX10_of 151 = .ok (.aload_n 0, 1) := by decide +kernel
theorem dX10_of_152 : decode cX10_of 152 = .ok (.getfield 75, 3) := by decide +kernel
theorem dX10_of_155 : decode cX10_of 155 = .ok (.iload_n 1, 1) := by decide +kernel
theorem dX10_of_156 : decode cX10_of 156 = .ok (.laload, 1) := by decide +kernel
theorem dX10_of_157 : decode cX10_of 157 = .ok (.aload_n 0, 1) := by decide +kernel
theorem dX10_of_158 : decode cX10_of 158 = .ok (.getfield 78, 3) := by decide +kernel
theorem dX10_of_161 : decode cX10_of 161 = .ok (.iload_n 1, 1) := by decide +kernel
theorem dX10_of_162 : decode cX10_of 162 = .ok (.laload, 1) := by decide +kernel
theorem dX10_of_163 : decode cX10_of 163 = .ok (.lsub, 1) := by decide +kernel
theorem dX10_of_164 : decode cX10_of 164 = .ok (.aload_n 0, 1) := by decide +kernel
theorem dX10_of_165 : decode cX10_of 165 = .ok (.getfield 90, 3) := by decide +kernel
theorem dX10_of_168 : decode cX10_of 168 = .ok (.iload_n 1, 1) := by decide +kernel
theorem dX10_of_169 : decode cX10_of 169 = .ok (.laload, 1) := by decide +kernel
theorem dX10_of_170 : decode cX10_of 170 = .ok (.lsub, 1) := by decide +kernel
theorem dX10_of_171 : decode cX10_of 171 = .ok (.lreturn, 1) := by decide +kernel
theorem dX10_of_172 : decode cX10_of 172 = .ok (.aload_n 0, 1) := by decide +kernel
theorem dX10_of_173 : decode cX10_of 173 = .ok (.getfield 93, 3) := by decide +kernel
theorem dX10_of_176 : decode cX10_of 176 = .ok (.iload_n 1, 1) := by decide +kernel
theorem dX10_of_177 : decode cX10_of 177 = .ok (.laload, 1) := by decide +kernel
theorem dX10_of_178 : decode cX10_of 178 = .ok (.lreturn, 1) := by decide +kernel
theorem dX10_of_179 : decode cX10_of 179 = .ok (.aload_n 0, 1) := by decide +kernel
theorem dX10_of_180 : decode cX10_of 180 = .ok (.iload_n 1, 1) := by decide +kernel
theorem dX10_of_181 : decode cX10_of 181 = .ok (.invokevirtual 260, 3) := by decide +kernel
theorem dX10_of_184 : decode cX10_of 184 = .ok (.lreturn, 1) := by decide +kernel
theorem dX10_of_185 : decode cX10_of 185 = .ok (.aload_n 0, 1) := by decide +kernel
theorem dX10_of_186 : decode cX10_of 186 = .ok (.getfield 68, 3) := by decide +kernel
theorem dX10_of_189 : decode cX10_of 189 = .ok (.iload_n 1, 1) := by decide +kernel
theorem dX10_of_190 : decode cX10_of 190 = .ok (.laload, 1) := by decide +kernel
theorem dX10_of_191 : decode cX10_of 191 = .ok (.aload_n 0, 1) := by decide +kernel
theorem dX10_of_192 : decode cX10_of 192 = .ok (.aload_n 0, 1) := by decide +kernel
theorem dX10_of_193 : decode cX10_of 193 = .ok (.iload_n 1, 1) := by decide +kernel
theorem dX10_of_194 : decode cX10_of 194 = .ok (.invokevirtual 260, 3) := by decide +kernel
theorem dX10_of_197 : decode cX10_of 197 = .ok (.iconst 3, 1) := by decide +kernel
theorem dX10_of_198 : decode cX10_of 198 = .ok (.invokevirtual 236, 3) := by decide +kernel
theorem dX10_of_201 : decode cX10_of 201 = .ok (.lcmp, 1) := by decide +kernel
theorem dX10_of_202 : decode cX10_of 202 = .ok (.ifCond .ge 7, 3) := by decide +kernel
theorem dX10_of_205 : decode cX10_of 205 = .ok (.lconst 1, 1) := by decide +kernel
theorem dX10_of_206 : decode cX10_of 206 = .ok (.goto 4, 3) := by decide +kernel
theorem dX10_of_209 : decode cX10_of 209 = .ok (.lconst 0, 1) := by decide +kernel
theorem dX10_of_210 : decode cX10_of 210 = .ok (.lreturn, 1) := by decide +kernel
theorem dX10_of_211 : decode cX10_of 211 = .ok (.ldc2_w 189, 3) := by decide +kernel
theorem dX10_of_214 : decode cX10_of 214 = .ok (.lreturn, 1) := by decide +kernel
theorem dX10_group_0 : decode cX10_group 0 = .ok (.aload_n 0, 1) := by decide +kernel
theorem dX10_group_1 : decode cX10_group 1 = .ok (.iconst 0, 1) := by decide +kernel
theorem dX10_group_2 : decode cX10_group 2 = .ok (.putfield 117, 3) := by decide +kernel
theorem dX10_group_5 : decode cX10_group 5 = .ok (.iload_n 1, 1) := by decide +kernel
theorem dX10_group_6 : decode cX10_group 6 = .ok (.i2l, 1) := by decide +kernel
theorem dX10_group_7 : decode cX10_group 7 = .ok (.lconst 0, 1) := by decide +kernel
theorem dX10_group_8 : decode cX10_group 8 = .ok (.ldc2_w 132, 3) := by decide +kernel
theorem dX10_group_11 : decode cX10_group 11 = .ok (.invokestatic 125, 3) := by decide +kernel
theorem dX10_group_14 : decode cX10_group 14 = .ok (.ifCond .eq 22, 3) := by decide +kernel
theorem dX10_group_17 : decode cX10_group 17 = .ok (.iload_n 2, 1) := by decide +kernel
theorem dX10_group_18 : decode cX10_group 18 = .ok (.invokestatic 144, 3) := by decide +kernel
theorem dX10_group_21 : decode cX10_group 21 = .ok (.ifCond .eq 15, 3) := by decide +kernel
theorem dX10_group_24 : decode cX10_group 24 = .ok (.iload_n 3, 1) := by decide +kernel
theorem dX10_group_25 : decode cX10_group 25 = .ok (.i2l, 1) := by decide +kernel
theorem dX10_group_26 : decode cX10_group 26 = .ok (.lconst 0, 1) := by decide +kernel
theorem dX10_group_27 : decode cX10_group 27 = .ok (.ldc2_w 264, 3) := by decide +kernel
theorem dX10_group_30 : decode cX10_group 30 = .ok (.invokestatic 125, 3) := by decide +kernel
theorem dX10_group_33 : decode cX10_group 33 = .ok (.ifCond .ne 7, 3) := by decide +kernel
theorem dX10_group_36 : decode cX10_group 36 = .ok (.ldc2_w 189, 3) := by decide +kernel
theorem dX10_group_39 : decode cX10_group 39 = .ok (.lreturn, 1) := by decide +kernel
theorem dX10_group_40 : decode cX10_group 40 = .ok (.aload_n 0, 1) := by decide +kernel
theorem dX10_group_41 : decode cX10_group 41 = .ok (.iload_n 2, 1) := by decide +kernel
theorem dX10_group_42 : decode cX10_group 42 = .ok (.invokevirtual 257, 3) := by decide +kernel
theorem dX10_group_45 : decode cX10_group 45 = .ok (.lconst 0, 1) := by decide +kernel
theorem dX10_group_46 : decode cX10_group 46 = .ok (.lstore 4, 2) := by decide +kernel
theorem dX10_group_48 : decode cX10_group 48 = .ok (.iconst 0, 1) := by decide +kernel
theorem dX10_group_49 : decode cX10_group 49 = .ok (.istore 6, 2) := by decide +kernel
theorem dX10_group_51 : decode cX10_group 51 = .ok (.iload 6, 2) := by decide +kernel
theorem dX10_group_53 : decode cX10_group 53 = .ok (.aload_n 0, 1) := by decide +kernel
theorem dX10_group_54 : decode cX10_group 54 = .ok (.getfield 129, 3) := by decide +kernel
theorem dX10_group_57 : decode cX10_group 57 = .ok (.if_icmp .ge 78, 3) := by decide +kernel
theorem dX10_group_60 : decode cX10_group 60 = .ok (.aload_n 0, 1) := by decide +kernel
theorem dX10_group_61 : decode cX10_group 61 = .ok (.getfield 7, 3) := by decide +kernel
theorem dX10_group_64 : decode cX10_group 64 = .ok (.iload 6, 2) := by decide +kernel
theorem dX10_group_66 : decode cX10_group 66 = .ok (.iaload, 1) := by decide +kernel
theorem dX10_group_67 : decode cX10_group 67 = .ok (.iload_n 1, 1) := by decide +kernel
theorem dX10_group_68 : decode cX10_group 68 = .ok (.if_icmp .ne 61, 3) := by decide +kernel
theorem dX10_group_71 : decode cX10_group 71 = .ok (.lload 4, 2) := by decide +kernel
theorem dX10_group_73 : decode cX10_group 73 = .ok (.iload_n 3, 1) := by decide +kernel
theorem dX10_group_74 : decode cX10_group 74 = .ok (.ifCond .ne 7, 3) := by decide +kernel
theorem dX10_group_77 : decode cX10_group 77 = .ok (.lconst 1, 1) := by decide +kernel
theorem dX10_group_78 : decode cX10_group 78 = .ok (.goto 48, 3) := by decide +kernel
theorem dX10_group_81 : decode cX10_group 81 = .ok (.iload_n 3, 1) := by decide +kernel
theorem dX10_group_82 : decode cX10_group 82 = .ok (.iconst 1, 1) := by decide +kernel
theorem dX10_group_83 : decode cX10_group 83 = .ok (.if_icmp .ne 21, 3) := by decide +kernel
theorem dX10_group_86 : decode cX10_group 86 = .ok (.aload_n 0, 1) := by decide +kernel
theorem dX10_group_87 : decode cX10_group 87 = .ok (.getfield 72, 3) := by decide +kernel
theorem dX10_group_90 : decode cX10_group 90 = .ok (.iload 6, 2) := by decide +kernel
theorem dX10_group_92 : decode cX10_group 92 = .ok (.laload, 1) := by decide +kernel
theorem dX10_group_93 : decode cX10_group 93 = .ok (.aload_n 0, 1) := by decide +kernel
theorem dX10_group_94 : decode cX10_group 94 = .ok (.getfield 78, 3) := by decide +kernel
theorem dX10_group_97 : decode cX10_group 97 = .ok (.iload 6, 2) := by decide +kernel
theorem dX10_group_99 : decode cX10_group 99 = .ok (.laload, 1) := by decide +kernel
theorem dX10_group_100 : decode cX10_group 100 = .ok (.lsub, 1) := by decide +kernel
theorem dX10_group_101 : decode cX10_group 101 = .ok (.goto 25, 3) := by decide +kernel
theorem dX10_group_104 : decode cX10_group 104 = .ok (.iload_n 3, 1) := by decide +kernel
theorem dX10_group_105 : decode cX10_group 105 = .ok (.iconst 2, 1) := by decide +kernel
theorem dX10_group_106 : decode cX10_group 106 = .ok (.if_icmp .ne 13, 3) := by decide +kernel
theorem dX10_group_109 : decode cX10_group 109 = .ok (.aload_n 0, 1) := by decide +kernel
theorem dX10_group_110 : decode cX10_group 110 = .ok (.getfield 90, 3) := by decide +kernel
theorem dX10_group_113 : decode cX10_group 113 = .ok (.iload 6, 2) := by decide +kernel
theorem dX10_group_115 : decode cX10_group 115 = .ok (.laload, 1) := by decide +kernel
theorem dX10_group_116 : decode cX10_group 116 = .ok (.goto 10, 3) := by decide +kernel
theorem dX10_group_119 : decode cX10_group 119 = .ok (.aload_n 0, 1) := by decide +kernel
theorem dX10_group_120 : decode cX10_group 120 = .ok (.getfield 93, 3) := by decide +kernel
theorem dX10_group_123 : decode cX10_group 123 = .ok (.iload 6, 2) := by decide +kernel
theorem dX10_group_125 : decode cX10_group 125 = .ok (.laload, 1) := by decide +kernel
theorem dX10_group_126 : decode cX10_group 126 = .ok (.ladd, 1) := by decide +kernel
theorem dX10_group_127 : decode cX10_group 127 = .ok (.lstore 4, 2) := by decide +kernel
theorem dX10_group_129 : decode cX10_group 129 = .ok (.iinc 6 1, 3) := by decide +kernel
theorem dX10_group_132 : decode cX10_group 132 = .ok (.goto (-81), 3) := by decide +kernel
theorem dX10_group_135 : decode cX10_group 135 = .ok (.lload 4, 2) := by decide +kernel
theorem dX10_group_137 : decode cX10_group 137 = .ok (.lreturn, 1) := by decide +kernel
theorem dX10_visit_0 : decode cX10_visit 0 = .ok (.aload_n 0, 1) := by decide +kernel
theorem dX10_visit_1 : decode cX10_visit 1 = .ok (.iconst 0, 1) := by decide +kernel
theorem dX10_visit_2 : decode cX10_visit 2 = .ok (.putfield 117, 3) := by decide +kernel
theorem dX10_visit_5 : decode cX10_visit 5 = .ok (.iload_n 2, 1) := by decide +kernel
theorem dX10_visit_6 : decode cX10_visit 6 = .ok (.i2l, 1) := by decide +kernel
theorem dX10_visit_7 : decode cX10_visit 7 = .ok (.lconst 0, 1) := by decide +kernel
theorem dX10_visit_8 : decode cX10_visit 8 = .ok (.ldc2_w 266, 3) := by decide +kernel
theorem dX10_visit_11 : decode cX10_visit 11 = .ok (.invokestatic 125, 3) := by decide +kernel
theorem dX10_visit_14 : decode cX10_visit 14 = .ok (.ifCond .ne 9, 3) := by decide +kernel
theorem dX10_visit_17 : decode cX10_visit 17 = .ok (.aload_n 0, 1) := by decide +kernel
theorem dX10_visit_18 : decode cX10_visit 18 = .ok (.iconst (-1), 1) := by decide +kernel
theorem dX10_visit_19 : decode cX10_visit 19 = .ok (.invokevirtual 138, 3) := by decide +kernel
theorem dX10_visit_22 : decode cX10_visit 22 = .ok (.ireturn, 1) := by decide +kernel
theorem dX10_visit_23 : decode cX10_visit 23 = .ok (.aload_n 0, 1) := by decide +kernel
theorem dX10_visit_24 : decode cX10_visit 24 = .ok (.iload_n 1, 1) := by decide +kernel
theorem dX10_visit_25 : decode cX10_visit 25 = .ok (.invokevirtual 148, 3) := by decide +kernel
theorem dX10_visit_28 : decode cX10_visit 28 = .ok (.ifCond .ne 10, 3) := by decide +kernel
theorem dX10_visit_31 : decode cX10_visit 31 = .ok (.aload_n 0, 1) := by decide +kernel
theorem dX10_visit_32 : decode cX10_visit 32 = .ok (.bipush (-2), 2) := by decide +kernel
theorem dX10_visit_34 : decode cX10_visit 34 = .ok (.invokevirtual 138, 3) := by decide +kernel
theorem dX10_visit_37 : decode cX10_visit 37 = .ok (.ireturn, 1) := by decide +kernel
theorem dX10_visit_38 : decode cX10_visit 38 = .ok (.aload_n 0, 1) := by decide +kernel
theorem dX10_visit_39 : decode cX10_visit 39 = .ok (.getfield 268, 3) := by decide +kernel
theorem dX10_visit_42 : decode cX10_visit 42 = .ok (.bipush 16, 2) := by decide +kernel
theorem dX10_visit_44 : decode cX10_visit 44 = .ok (.if_icmp .ne 10, 3) := by decide +kernel
theorem dX10_visit_47 : decode cX10_visit 47 = .ok (.aload_n 0, 1) := by decide +kernel
theorem dX10_visit_48 : decode cX10_visit 48 = .ok (.bipush (-5), 2) := by decide +kernel
theorem dX10_visit_50 : decode cX10_visit 50 = .ok (.invokevirtual 138, 3) := by decide +kernel
theorem dX10_visit_53 : decode cX10_visit 53 = .ok (.ireturn, 1) := by decide +kernel
theorem dX10_visit_54 : decode cX10_visit 54 = .ok (.aload_n 0, 1) := by decide +kernel
theorem dX10_visit_55 : decode cX10_visit 55 = .ok (.getfield 105, 3) := by decide +kernel
theorem dX10_visit_58 : decode cX10_visit 58 = .ok (.aload_n 0, 1) := by decide +kernel
theorem dX10_visit_59 : decode cX10_visit 59 = .ok (.getfield 268, 3) := by decide +kernel
theorem dX10_visit_62 : decode cX10_visit 62 = .ok (.iload_n 1, 1) := by decide +kernel
theorem dX10_visit_63 : decode cX10_visit 63 = .ok (.iastore, 1) := by decide +kernel
theorem dX10_visit_64 : decode cX10_visit 64 = .ok (.aload_n 0, 1) := by decide +kernel
theorem dX10_visit_65 : decode cX10_visit 65 = .ok (.getfield 108, 3) := by decide +kernel
theorem dX10_visit_68 : decode cX10_visit 68 = .ok (.aload_n 0, 1) := by decide +kernel
theorem dX10_visit_69 : decode cX10_visit 69 = .ok (.getfield 268, 3) := by decide +kernel
theorem dX10_visit_72 : decode cX10_visit 72 = .ok (.iload_n 2, 1) := by decide +kernel
theorem dX10_visit_73 : decode cX10_visit 73 = .ok (.iastore, 1) := by decide +kernel
theorem dX10_visit_74 : decode cX10_visit 74 = .ok (.aload_n 0, 1) := by decide +kernel
theorem dX10_visit_75 : decode cX10_visit 75 = .ok (.dup, 1) := by decide +kernel
theorem dX10_visit_76 : decode cX10_visit 76 = .ok (.getfield 268, 3) := by decide +kernel
theorem dX10_visit_79 : decode cX10_visit 79 = .ok (.iconst 1, 1) := by decide +kernel
theorem dX10_visit_80 : decode cX10_visit 80 = .ok (.iadd, 1) := by decide +kernel
theorem dX10_visit_81 : decode cX10_visit 81 = .ok (.putfield 268, 3) := by decide +kernel
theorem dX10_visit_84 : decode cX10_visit 84 = .ok (.aload_n 0, 1) := by decide +kernel
theorem dX10_visit_85 : decode cX10_visit 85 = .ok (.aload_n 0, 1) := by decide +kernel
theorem dX10_visit_86 : decode cX10_visit 86 = .ok (.getfield 268, 3) := by decide +kernel
theorem dX10_visit_89 : decode cX10_visit 89 = .ok (.invokevirtual 138, 3) := by decide +kernel
theorem dX10_visit_92 : decode cX10_visit 92 = .ok (.ireturn, 1) := by decide +kernel
theorem dX10_clear_0 : decode cX10_clear 0 = .ok (.aload_n 0, 1) := by decide +kernel
theorem dX10_clear_1 : decode cX10_clear 1 = .ok (.iconst 0, 1) := by decide +kernel
theorem dX10_clear_2 : decode cX10_clear 2 = .ok (.putfield 117, 3) := by decide +kernel
theorem dX10_clear_5 : decode cX10_clear 5 = .ok (.aload_n 0, 1) := by decide +kernel
theorem dX10_clear_6 : decode cX10_clear 6 = .ok (.getfield 268, 3) := by decide +kernel
theorem dX10_clear_9 : decode cX10_clear 9 = .ok (.istore_n 1, 1) := by decide +kernel
theorem dX10_clear_10 : decode cX10_clear 10 = .ok (.aload_n 0, 1) := by decide +kernel
theorem dX10_clear_11 : decode cX10_clear 11 = .ok (.iconst 0, 1) := by decide +kernel
theorem dX10_clear_12 : decode cX10_clear 12 = .ok (.putfield 268, 3) := by decide +kernel
theorem dX10_clear_15 : decode cX10_clear 15 = .ok (.iload_n 1, 1) := by decide +kernel
theorem dX10_clear_16 : decode cX10_clear 16 = .ok (.ireturn, 1) := by decide +kernel
theorem dX10_addPlace_0 : decode cX10_addPlace 0 = .ok (.iconst 0, 1) := by decide +kernel
theorem dX10_addPlace_1 : decode cX10_addPlace 1 = .ok (.istore_n 2, 1) := by decide +kernel
theorem dX10_addPlace_2 : decode cX10_addPlace 2 = .ok (.iload_n 2, 1) := by decide +kernel
theorem dX10_addPlace_3 : decode cX10_addPlace 3 = .ok (.aload_n 0, 1) := by decide +kernel
theorem dX10_addPlace_4 : decode cX10_addPlace 4 = .ok (.getfield 271, 3) := by decide +kernel
theorem dX10_addPlace_7 : decode cX10_addPlace 7 = .ok (.if_icmp .ge 19, 3) := by decide +kernel
theorem dX10_addPlace_10 : decode cX10_addPlace 10 = .ok (.aload_n 0, 1) := by decide +kernel
theorem dX10_addPlace_11 : decode cX10_addPlace 11 = .ok (.getfield 111, 3) := by decide +kernel
theorem dX10_addPlace_14 : decode cX10_addPlace 14 = .ok (.iload_n 2, 1) := by decide +kernel
theorem dX10_addPlace_15 : decode cX10_addPlace 15 = .ok (.iaload, 1) := by decide +kernel
theorem dX10_addPlace_16 : decode cX10_addPlace 16 = .ok (.iload_n 1, 1) := by decide +kernel
theorem dX10_addPlace_17 : decode cX10_addPlace 17 = .ok (.if_icmp .ge 9, 3) := by decide +kernel
theorem dX10_addPlace_20 : decode cX10_addPlace 20 = .ok (.iinc 2 1, 3) := by decide +kernel
theorem dX10_addPlace_23 : decode cX10_addPlace 23 = .ok (.goto (-21), 3) := by decide +kernel
theorem dX10_addPlace_26 : decode cX10_addPlace 26 = .ok (.iload_n 2, 1) := by decide +kernel
theorem dX10_addPlace_27 : decode cX10_addPlace 27 = .ok (.aload_n 0, 1) := by decide +kernel
theorem dX10_addPlace_28 : decode cX10_addPlace 28 = .ok (.getfield 271, 3) := by decide +kernel
theorem dX10_addPlace_31 : decode cX10_addPlace 31 = .ok (.if_icmp .ge 14, 3) := by decide +kernel
theorem dX10_addPlace_34 : decode cX10_addPlace 34 = .ok (.aload_n 0, 1) := by decide +kernel
theorem dX10_addPlace_35 : decode cX10_addPlace 35 = .ok (.getfield 111, 3) := by decide +kernel
theorem dX10_addPlace_38 : decode cX10_addPlace 38 = .ok (.iload_n 2, 1) := by decide +kernel
theorem dX10_addPlace_39 : decode cX10_addPlace 39 = .ok (.iaload, 1) := by decide +kernel
theorem dX10_addPlace_40 : decode cX10_addPlace 40 = .ok (.iload_n 1, 1) := by decide +kernel
theorem dX10_addPlace_41 : decode cX10_addPlace 41 = .ok (.if_icmp .ne 4, 3) := by decide +kernel
theorem dX10_addPlace_44 : decode cX10_addPlace 44 = .ok (.return_, 1) := by decide +kernel
theorem dX10_addPlace_45 : decode cX10_addPlace 45 = .ok (.aload_n 0, 1) := by decide +kernel
theorem dX10_addPlace_46 : decode cX10_addPlace 46 = .ok (.getfield 271, 3) := by decide +kernel
theorem dX10_addPlace_49 : decode cX10_addPlace 49 = .ok (.istore_n 3, 1) := by decide +kernel
theorem dX10_addPlace_50 : decode cX10_addPlace 50 = .ok (.iload_n 3, 1) := by decide +kernel
theorem dX10_addPlace_51 : decode cX10_addPlace 51 = .ok (.iload_n 2, 1) := by decide +kernel
theorem dX10_addPlace_52 : decode cX10_addPlace 52 = .ok (.if_icmp .le 23, 3) := by decide +kernel
theorem dX10_addPlace_55 : decode cX10_addPlace 55 = .ok (.aload_n 0, 1) := by decide +kernel
theorem dX10_addPlace_56 : decode cX10_addPlace 56 = .ok (.getfield 111, 3) := by decide +kernel
theorem dX10_addPlace_59 : decode cX10_addPlace 59 = .ok (.iload_n 3, 1) := by decide +kernel
theorem dX10_addPlace_60 : decode cX10_addPlace 60 = .ok (.aload_n 0, 1) := by decide +kernel
theorem dX10_addPlace_61 : decode cX10_addPlace 61 = .ok (.getfield 111, 3) := by decide +kernel
theorem dX10_addPlace_64 : decode cX10_addPlace 64 = .ok (.iload_n 3, 1) := by decide +kernel
theorem dX10_addPlace_65 : decode cX10_addPlace 65 = .ok (.iconst 1, 1) := by decide +kernel
theorem dX10_addPlace_66 : decode cX10_addPlace 66 = .ok (.isub, 1) := by decide +kernel
theorem dX10_addPlace_67 : decode cX10_addPlace 67 = .ok (.iaload, 1) := by decide +kernel
theorem dX10_addPlace_68 : decode cX10_addPlace 68 = .ok (.iastore, 1) := by decide +kernel
theorem dX10_addPlace_69 : decode cX10_addPlace 69 = .ok (.iinc 3 (-1), 3) := by decide +kernel
theorem dX10_addPlace_72 : decode cX10_addPlace 72 = .ok (.goto (-22), 3) := by decide +kernel
theorem dX10_addPlace_75 : decode cX10_addPlace 75 = .ok (.aload_n 0, 1) := by decide +kernel
theorem dX10_addPlace_76 : decode cX10_addPlace 76 = .ok (.getfield 111, 3) := by decide +kernel
theorem dX10_addPlace_79 : decode cX10_addPlace 79 = .ok (.iload_n 2, 1) := by decide +kernel
theorem dX10_addPlace_80 : decode cX10_addPlace 80 = .ok (.iload_n 1, 1) := by decide +kernel
theorem dX10_addPlace_81 : decode cX10_addPlace 81 = .ok (.iastore, 1) := by decide +kernel
theorem dX10_addPlace_82 : decode cX10_addPlace 82 = .ok (.aload_n 0, 1) := by decide +kernel
theorem dX10_addPlace_83 : decode cX10_addPlace 83 = .ok (.dup, 1) := by decide +kernel
theorem dX10_addPlace_84 : decode cX10_addPlace 84 = .ok (.getfield 271, 3) := by decide +kernel
theorem dX10_addPlace_87 : decode cX10_addPlace 87 = .ok (.iconst 1, 1) := by decide +kernel
theorem dX10_addPlace_88 : decode cX10_addPlace 88 = .ok (.iadd, 1) := by decide +kernel
theorem dX10_addPlace_89 : decode cX10_addPlace 89 = .ok (.putfield 271, 3) := by decide +kernel
theorem dX10_addPlace_92 : decode cX10_addPlace 92 = .ok (.return_, 1) := by decide +kernel
theorem dX10_metAt_0 : decode cX10_metAt 0 = .ok (.iconst 0, 1) := by decide +kernel
theorem dX10_metAt_1 : decode cX10_metAt 1 = .ok (.istore_n 3, 1) := by decide +kernel
theorem dX10_metAt_2 : decode cX10_metAt 2 = .ok (.iconst 0, 1) := by decide +kernel
theorem dX10_metAt_3 : decode cX10_metAt 3 = .ok (.istore 4, 2) := by decide +kernel
theorem dX10_metAt_5 : decode cX10_metAt 5 = .ok (.iload 4, 2) := by decide +kernel
theorem dX10_metAt_7 : decode cX10_metAt 7 = .ok (.aload_n 0, 1) := by decide +kernel
theorem dX10_metAt_8 : decode cX10_metAt 8 = .ok (.getfield 268, 3) := by decide +kernel
theorem dX10_metAt_11 : decode cX10_metAt 11 = .ok (.if_icmp .ge 44, 3) := by decide +kernel
theorem dX10_metAt_14 : decode cX10_metAt 14 = .ok (.iload_n 3, 1) := by decide +kernel
theorem dX10_metAt_15 : decode cX10_metAt 15 = .ok (.aload_n 0, 1) := by decide +kernel
theorem dX10_metAt_16 : decode cX10_metAt 16 = .ok (.getfield 13, 3) := by decide +kernel
theorem dX10_metAt_19 : decode cX10_metAt 19 = .ok (.aload_n 0, 1) := by decide +kernel
theorem dX10_metAt_20 : decode cX10_metAt 20 = .ok (.getfield 105, 3) := by decide +kernel
theorem dX10_metAt_23 : decode cX10_metAt 23 = .ok (.iload 4, 2) := by decide +kernel
theorem dX10_metAt_25 : decode cX10_metAt 25 = .ok (.iaload, 1) := by decide +kernel
theorem dX10_metAt_26 : decode cX10_metAt 26 = .ok (.iaload, 1) := by decide +kernel
theorem dX10_metAt_27 : decode cX10_metAt 27 = .ok (.iload_n 1, 1) := by decide +kernel
theorem dX10_metAt_28 : decode cX10_metAt 28 = .ok (.if_icmp .ne 18, 3) := by decide +kernel
theorem dX10_metAt_31 : decode cX10_metAt 31 = .ok (.iload_n 2, 1) := by decide +kernel
theorem dX10_metAt_32 : decode cX10_metAt 32 = .ok (.aload_n 0, 1) := by decide +kernel
theorem dX10_metAt_33 : decode cX10_metAt 33 = .ok (.getfield 108, 3) := by decide +kernel
theorem dX10_metAt_36 : decode cX10_metAt 36 = .ok (.iload 4, 2) := by decide +kernel
theorem dX10_metAt_38 : decode cX10_metAt 38 = .ok (.iaload, 1) := by decide +kernel
theorem dX10_metAt_39 : decode cX10_metAt 39 = .ok (.if_icmp .gt 7, 3) := by decide +kernel
theorem dX10_metAt_42 : decode cX10_metAt 42 = .ok (.iconst 1, 1) := by decide +kernel
theorem dX10_metAt_43 : decode cX10_metAt 43 = .ok (.goto 4, 3) := by decide +kernel
theorem dX10_metAt_46 : decode cX10_metAt 46 = .ok (.iconst 0, 1) := by decide +kernel
theorem dX10_metAt_47 : decode cX10_metAt 47 = .ok (.iadd, 1) := by decide +kernel
theorem dX10_metAt_48 : decode cX10_metAt 48 = .ok (.istore_n 3, 1) := by decide +kernel
theorem dX10_metAt_49 : decode cX10_metAt 49 = .ok (.iinc 4 1, 3) := by decide +kernel
theorem dX10_metAt_52 : decode cX10_metAt 52 = .ok (.goto (-47), 3) := by decide +kernel
theorem dX10_metAt_55 : decode cX10_metAt 55 = .ok (.iload_n 3, 1) := by decide +kernel
theorem dX10_metAt_56 : decode cX10_metAt 56 = .ok (.ireturn, 1) := by decide +kernel
theorem dX10_at_0 : decode cX10_at 0 = .ok (.bipush 17, 2) := by decide +kernel
theorem dX10_at_2 : decode cX10_at 2 = .ok (.iload_n 0, 1) := by decide +kernel
theorem dX10_at_3 : decode cX10_at 3 = .ok (.imul, 1) := by decide +kernel
theorem dX10_at_4 : decode cX10_at 4 = .ok (.iload_n 1, 1) := by decide +kernel
theorem dX10_at_5 : decode cX10_at 5 = .ok (.iadd, 1) := by decide +kernel
theorem dX10_at_6 : decode cX10_at 6 = .ok (.iconst 2, 1) := by decide +kernel
theorem dX10_at_7 : decode cX10_at 7 = .ok (.imul, 1) := by decide +kernel
theorem dX10_at_8 : decode cX10_at 8 = .ok (.iload_n 2, 1) := by decide +kernel
theorem dX10_at_9 : decode cX10_at 9 = .ok (.iadd, 1) := by decide +kernel
theorem dX10_at_10 : decode cX10_at 10 = .ok (.bipush 17, 2) := by decide +kernel
theorem dX10_at_12 : decode cX10_at 12 = .ok (.imul, 1) := by decide +kernel
theorem dX10_at_13 : decode cX10_at 13 = .ok (.iload_n 3, 1) := by decide +kernel
theorem dX10_at_14 : decode cX10_at 14 = .ok (.iadd, 1) := by decide +kernel
theorem dX10_at_15 : decode cX10_at 15 = .ok (.ireturn, 1) := by decide +kernel
theorem dX10_widen_0 : decode cX10_widen 0 = .ok (.aload_n 0, 1) := by decide +kernel
theorem dX10_widen_1 : decode cX10_widen 1 = .ok (.getfield 114, 3) := by decide +kernel
theorem dX10_widen_4 : decode cX10_widen 4 = .ok (.iload_n 1, 1) := by decide +kernel
theorem dX10_widen_5 : decode cX10_widen 5 = .ok (.iload_n 2, 1) := by decide +kernel
theorem dX10_widen_6 : decode cX10_widen 6 = .ok (.iload_n 3, 1) := by decide +kernel
theorem dX10_widen_7 : decode cX10_widen 7 = .ok (.iload 4, 2) := by decide +kernel
theorem dX10_widen_9 : decode cX10_widen 9 = .ok (.invokestatic 274, 3) := by decide +kernel
theorem dX10_widen_12 : decode cX10_widen 12 = .ok (.iaload, 1) := by decide +kernel
theorem dX10_widen_13 : decode cX10_widen 13 = .ok (.istore 7, 2) := by decide +kernel
theorem dX10_widen_15 : decode cX10_widen 15 = .ok (.iload 5, 2) := by decide +kernel
theorem dX10_widen_17 : decode cX10_widen 17 = .ok (.iload_n 1, 1) := by decide +kernel
theorem dX10_widen_18 : decode cX10_widen 18 = .ok (.if_icmp .ge 8, 3) := by decide +kernel
theorem dX10_widen_21 : decode cX10_widen 21 = .ok (.iload 5, 2) := by decide +kernel
theorem dX10_widen_23 : decode cX10_widen 23 = .ok (.goto 5, 3) := by decide +kernel
theorem dX10_widen_26 : decode cX10_widen 26 = .ok (.iload 6, 2) := by decide +kernel
theorem dX10_widen_28 : decode cX10_widen 28 = .ok (.istore 8, 2) := by decide +kernel
theorem dX10_widen_30 : decode cX10_widen 30 = .ok (.iload 7, 2) := by decide +kernel
theorem dX10_widen_32 : decode cX10_widen 32 = .ok (.ldc_w 278, 3) := by decide +kernel
theorem dX10_widen_35 : decode cX10_widen 35 = .ok (.if_icmp .eq 17, 3) := by decide +kernel
theorem dX10_widen_38 : decode cX10_widen 38 = .ok (.iload 5, 2) := by decide +kernel
theorem dX10_widen_40 : decode cX10_widen 40 = .ok (.ifCond .lt 12, 3) := by decide +kernel
theorem dX10_widen_43 : decode cX10_widen 43 = .ok (.iload 6, 2) := by decide +kernel
theorem dX10_widen_45 : decode cX10_widen 45 = .ok (.aload_n 0, 1) := by decide +kernel
theorem dX10_widen_46 : decode cX10_widen 46 = .ok (.getfield 271, 3) := by decide +kernel
theorem dX10_widen_49 : decode cX10_widen 49 = .ok (.if_icmp .ne 4, 3) := by decide +kernel
theorem dX10_widen_52 : decode cX10_widen 52 = .ok (.return_, 1) := by decide +kernel
theorem dX10_widen_53 : decode cX10_widen 53 = .ok (.aload_n 0, 1) := by decide +kernel
theorem dX10_widen_54 : decode cX10_widen 54 = .ok (.getfield 111, 3) := by decide +kernel
theorem dX10_widen_57 : decode cX10_widen 57 = .ok (.iload 8, 2) := by decide +kernel
theorem dX10_widen_59 : decode cX10_widen 59 = .ok (.iaload, 1) := by decide +kernel
theorem dX10_widen_60 : decode cX10_widen 60 = .ok (.aload_n 0, 1) := by decide +kernel
theorem dX10_widen_61 : decode cX10_widen 61 = .ok (.getfield 111, 3) := by decide +kernel
theorem dX10_widen_64 : decode cX10_widen 64 = .ok (.iload_n 3, 1) := by decide +kernel
theorem dX10_widen_65 : decode cX10_widen 65 = .ok (.ifCond .ne 7, 3) := by decide +kernel
theorem dX10_widen_68 : decode cX10_widen 68 = .ok (.iload_n 1, 1) := by decide +kernel
theorem dX10_widen_69 : decode cX10_widen 69 = .ok (.goto 4, 3) := by decide +kernel
theorem dX10_widen_72 : decode cX10_widen 72 = .ok (.iload_n 2, 1) := by decide +kernel
theorem dX10_widen_73 : decode cX10_widen 73 = .ok (.iaload, 1) := by decide +kernel
theorem dX10_widen_74 : decode cX10_widen 74 = .ok (.isub, 1) := by decide +kernel
theorem dX10_widen_75 : decode cX10_widen 75 = .ok (.istore 9, 2) := by decide +kernel
theorem dX10_widen_77 : decode cX10_widen 77 = .ok (.iload 7, 2) := by decide +kernel
theorem dX10_widen_79 : decode cX10_widen 79 = .ok (.iload 9, 2) := by decide +kernel
theorem dX10_widen_81 : decode cX10_widen 81 = .ok (.ifCond .ge 9, 3) := by decide +kernel
theorem dX10_widen_84 : decode cX10_widen 84 = .ok (.iload 9, 2) := by decide +kernel
theorem dX10_widen_86 : decode cX10_widen 86 = .ok (.ineg, 1) := by decide +kernel
theorem dX10_widen_87 : decode cX10_widen 87 = .ok (.goto 5, 3) := by decide +kernel
theorem dX10_widen_90 : decode cX10_widen 90 = .ok (.iload 9, 2) := by decide +kernel
theorem dX10_widen_92 : decode cX10_widen 92 = .ok (.iadd, 1) := by decide +kernel
theorem dX10_widen_93 : decode cX10_widen 93 = .ok (.istore 10, 2) := by decide +kernel
theorem dX10_widen_95 : decode cX10_widen 95 = .ok (.iload 5, 2) := by decide +kernel
theorem dX10_widen_97 : decode cX10_widen 97 = .ok (.iload 6, 2) := by decide +kernel
theorem dX10_widen_99 : decode cX10_widen 99 = .ok (.iload 5, 2) := by decide +kernel
theorem dX10_widen_101 : decode cX10_widen 101 = .ok (.iload_n 1, 1) := by decide +kernel
theorem dX10_widen_102 : decode cX10_widen 102 = .ok (.if_icmp .ge 7, 3) := by decide +kernel
theorem dX10_widen_105 : decode cX10_widen 105 = .ok (.iconst 0, 1) := by decide +kernel
theorem dX10_widen_106 : decode cX10_widen 106 = .ok (.goto 4, 3) := by decide +kernel
theorem dX10_widen_109 : decode cX10_widen 109 = .ok (.iconst 1, 1) := by decide +kernel
theorem dX10_widen_110 : decode cX10_widen 110 = .ok (.iload 4, 2) := by decide +kernel
theorem dX10_widen_112 : decode cX10_widen 112 = .ok (.aload_n 0, 1) := by decide +kernel
theorem dX10_widen_113 : decode cX10_widen 113 = .ok (.aload_n 0, 1) := by decide +kernel
theorem dX10_widen_114 : decode cX10_widen 114 = .ok (.getfield 111, 3) := by decide +kernel
theorem dX10_widen_117 : decode cX10_widen 117 = .ok (.iload 8, 2) := by decide +kernel
theorem dX10_widen_119 : decode cX10_widen 119 = .ok (.iaload, 1) := by decide +kernel
theorem dX10_widen_120 : decode cX10_widen 120 = .ok (.iload 10, 2) := by decide +kernel
theorem dX10_widen_122 : decode cX10_widen 122 = .ok (.invokevirtual 279, 3) := by decide +kernel
theorem dX10_widen_125 : decode cX10_widen 125 = .ok (.iadd, 1) := by decide +kernel
theorem dX10_widen_126 : decode cX10_widen 126 = .ok (.invokestatic 274, 3) := by decide +kernel
theorem dX10_widen_129 : decode cX10_widen 129 = .ok (.istore 11, 2) := by decide +kernel
theorem dX10_widen_131 : decode cX10_widen 131 = .ok (.aload_n 0, 1) := by decide +kernel
theorem dX10_widen_132 : decode cX10_widen 132 = .ok (.getfield 114, 3) := by decide +kernel
theorem dX10_widen_135 : decode cX10_widen 135 = .ok (.iload 11, 2) := by decide +kernel
theorem dX10_widen_137 : decode cX10_widen 137 = .ok (.iload 10, 2) := by decide +kernel
theorem dX10_widen_139 : decode cX10_widen 139 = .ok (.aload_n 0, 1) := by decide +kernel
theorem dX10_widen_140 : decode cX10_widen 140 = .ok (.getfield 114, 3) := by decide +kernel
theorem dX10_widen_143 : decode cX10_widen 143 = .ok (.iload 11, 2) := by decide +kernel
theorem dX10_widen_145 : decode cX10_widen 145 = .ok (.iaload, 1) := by decide +kernel
theorem dX10_widen_146 : decode cX10_widen 146 = .ok (.if_icmp .ge 8, 3) := by decide +kernel
theorem dX10_widen_149 : decode cX10_widen 149 = .ok (.iload 10, 2) := by decide +kernel
theorem dX10_widen_151 : decode cX10_widen 151 = .ok (.goto 10, 3) := by decide +kernel
theorem dX10_widen_154 : decode cX10_widen 154 = .ok (.aload_n 0, 1) := by decide +kernel
theorem dX10_widen_155 : decode cX10_widen 155 = .ok (.getfield 114, 3) := by decide +kernel
theorem dX10_widen_158 : decode cX10_widen 158 = .ok (.iload 11, 2) := by decide +kernel
theorem dX10_widen_160 : decode cX10_widen 160 = .ok (.iaload, 1) := by decide +kernel
theorem dX10_widen_161 : decode cX10_widen 161 = .ok (.iastore, 1) := by decide +kernel
theorem dX10_widen_162 : decode cX10_widen 162 = .ok (.return_, 1) := by decide +kernel
theorem dX10_walk_0 : decode cX10_walk 0 = .ok (.aload_n 0, 1) := by decide +kernel
theorem dX10_walk_1 : decode cX10_walk 1 = .ok (.iconst 0, 1) := by decide +kernel
theorem dX10_walk_2 : decode cX10_walk 2 = .ok (.putfield 271, 3) := by decide +kernel
theorem dX10_walk_5 : decode cX10_walk 5 = .ok (.aload_n 0, 1) := by decide +kernel
theorem dX10_walk_6 : decode cX10_walk 6 = .ok (.iload_n 1, 1) := by decide +kernel
theorem dX10_walk_7 : decode cX10_walk 7 = .ok (.invokevirtual 283, 3) := by decide +kernel
theorem dX10_walk_10 : decode cX10_walk 10 = .ok (.iconst 0, 1) := by decide +kernel
theorem dX10_walk_11 : decode cX10_walk 11 = .ok (.istore_n 2, 1) := by decide +kernel
theorem dX10_walk_12 : decode cX10_walk 12 = .ok (.iload_n 2, 1) := by decide +kernel
theorem dX10_walk_13 : decode cX10_walk 13 = .ok (.aload_n 0, 1) := by decide +kernel
theorem dX10_walk_14 : decode cX10_walk 14 = .ok (.getfield 268, 3) := by decide +kernel
theorem dX10_walk_17 : decode cX10_walk 17 = .ok (.if_icmp .ge 24, 3) := by decide +kernel
theorem dX10_walk_20 : decode cX10_walk 20 = .ok (.aload_n 0, 1) := by decide +kernel
theorem dX10_walk_21 : decode cX10_walk 21 = .ok (.aload_n 0, 1) := by decide +kernel
theorem dX10_walk_22 : decode cX10_walk 22 = .ok (.getfield 13, 3) := by decide +kernel
theorem dX10_walk_25 : decode cX10_walk 25 = .ok (.aload_n 0, 1) := by decide +kernel
theorem dX10_walk_26 : decode cX10_walk 26 = .ok (.getfield 105, 3) := by decide +kernel
theorem dX10_walk_29 : decode cX10_walk 29 = .ok (.iload_n 2, 1) := by decide +kernel
theorem dX10_walk_30 : decode cX10_walk 30 = .ok (.iaload, 1) := by decide +kernel
theorem dX10_walk_31 : decode cX10_walk 31 = .ok (.iaload, 1) := by decide +kernel
theorem dX10_walk_32 : decode cX10_walk 32 = .ok (.invokevirtual 283, 3) := by decide +kernel
theorem dX10_walk_35 : decode cX10_walk 35 = .ok (.iinc 2 1, 3) := by decide +kernel
theorem dX10_walk_38 : decode cX10_walk 38 = .ok (.goto (-26), 3) := by decide +kernel
theorem dX10_walk_41 : decode cX10_walk 41 = .ok (.iconst 0, 1) := by decide +kernel
theorem dX10_walk_42 : decode cX10_walk 42 = .ok (.istore_n 2, 1) := by decide +kernel
theorem dX10_walk_43 : decode cX10_walk 43 = .ok (.iload_n 2, 1) := by decide +kernel
theorem dX10_walk_44 : decode cX10_walk 44 = .ok (.sipush 9826, 3) := by decide +kernel
theorem dX10_walk_47 : decode cX10_walk 47 = .ok (.if_icmp .ge 18, 3) := by decide +kernel
theorem dX10_walk_50 : decode cX10_walk 50 = .ok (.aload_n 0, 1) := by decide +kernel
theorem dX10_walk_51 : decode cX10_walk 51 = .ok (.getfield 114, 3) := by decide +kernel
theorem dX10_walk_54 : decode cX10_walk 54 = .ok (.iload_n 2, 1) := by decide +kernel
theorem dX10_walk_55 : decode cX10_walk 55 = .ok (.ldc_w 278, 3) := by decide +kernel
theorem dX10_walk_58 : decode cX10_walk 58 = .ok (.iastore, 1) := by decide +kernel
theorem dX10_walk_59 : decode cX10_walk 59 = .ok (.iinc 2 1, 3) := by decide +kernel
theorem dX10_walk_62 : decode cX10_walk 62 = .ok (.goto (-19), 3) := by decide +kernel
theorem dX10_walk_65 : decode cX10_walk 65 = .ok (.iconst 0, 1) := by decide +kernel
theorem dX10_walk_66 : decode cX10_walk 66 = .ok (.istore_n 2, 1) := by decide +kernel
theorem dX10_walk_67 : decode cX10_walk 67 = .ok (.aload_n 0, 1) := by decide +kernel
theorem dX10_walk_68 : decode cX10_walk 68 = .ok (.getfield 111, 3) := by decide +kernel
theorem dX10_walk_71 : decode cX10_walk 71 = .ok (.iload_n 2, 1) := by decide +kernel
theorem dX10_walk_72 : decode cX10_walk 72 = .ok (.iaload, 1) := by decide +kernel
theorem dX10_walk_73 : decode cX10_walk 73 = .ok (.iload_n 1, 1) := by decide +kernel
theorem dX10_walk_74 : decode cX10_walk 74 = .ok (.if_icmp .eq 9, 3) := by decide +kernel
theorem dX10_walk_77 : decode cX10_walk 77 = .ok (.iinc 2 1, 3) := by decide +kernel
theorem dX10_walk_80 : decode cX10_walk 80 = .ok (.goto (-13), 3) := by decide +kernel
theorem dX10_walk_83 : decode cX10_walk 83 = .ok (.aload_n 0, 1) := by decide +kernel
theorem dX10_walk_84 : decode cX10_walk 84 = .ok (.getfield 114, 3) := by decide +kernel
theorem dX10_walk_87 : decode cX10_walk 87 = .ok (.iload_n 2, 1) := by decide +kernel
theorem dX10_walk_88 : decode cX10_walk 88 = .ok (.iload_n 2, 1) := by decide +kernel
theorem dX10_walk_89 : decode cX10_walk 89 = .ok (.iconst 0, 1) := by decide +kernel
theorem dX10_walk_90 : decode cX10_walk 90 = .ok (.aload_n 0, 1) := by decide +kernel
theorem dX10_walk_91 : decode cX10_walk 91 = .ok (.iload_n 1, 1) := by decide +kernel
theorem dX10_walk_92 : decode cX10_walk 92 = .ok (.iconst 0, 1) := by decide +kernel
theorem dX10_walk_93 : decode cX10_walk 93 = .ok (.invokevirtual 279, 3) := by decide +kernel
theorem dX10_walk_96 : decode cX10_walk 96 = .ok (.invokestatic 274, 3) := by decide +kernel
theorem dX10_walk_99 : decode cX10_walk 99 = .ok (.iconst 0, 1) := by decide +kernel
theorem dX10_walk_100 : decode cX10_walk 100 = .ok (.iastore, 1) := by decide +kernel
theorem dX10_walk_101 : decode cX10_walk 101 = .ok (.iconst 1, 1) := by decide +kernel
theorem dX10_walk_102 : decode cX10_walk 102 = .ok (.istore_n 3, 1) := by decide +kernel
theorem dX10_walk_103 : decode cX10_walk 103 = .ok (.iload_n 3, 1) := by decide +kernel
theorem dX10_walk_104 : decode cX10_walk 104 = .ok (.aload_n 0, 1) := by decide +kernel
theorem dX10_walk_105 : decode cX10_walk 105 = .ok (.getfield 271, 3) := by decide +kernel
theorem dX10_walk_108 : decode cX10_walk 108 = .ok (.if_icmp .ge 106, 3) := by decide +kernel
theorem dX10_walk_111 : decode cX10_walk 111 = .ok (.iconst 0, 1) := by decide +kernel
theorem dX10_walk_112 : decode cX10_walk 112 = .ok (.istore 4, 2) := by decide +kernel
theorem dX10_walk_114 : decode cX10_walk 114 = .ok (.iload 4, 2) := by decide +kernel
theorem dX10_walk_116 : decode cX10_walk 116 = .ok (.iload_n 3, 1) := by decide +kernel
theorem dX10_walk_117 : decode cX10_walk 117 = .ok (.iadd, 1) := by decide +kernel
theorem dX10_walk_118 : decode cX10_walk 118 = .ok (.aload_n 0, 1) := by decide +kernel
theorem dX10_walk_119 : decode cX10_walk 119 = .ok (.getfield 271, 3) := by decide +kernel
theorem dX10_walk_122 : decode cX10_walk 122 = .ok (.if_icmp .gt 86, 3) := by decide +kernel
theorem dX10_walk_125 : decode cX10_walk 125 = .ok (.iload 4, 2) := by decide +kernel
theorem dX10_walk_127 : decode cX10_walk 127 = .ok (.iload_n 3, 1) := by decide +kernel
theorem dX10_walk_128 : decode cX10_walk 128 = .ok (.iadd, 1) := by decide +kernel
theorem dX10_walk_129 : decode cX10_walk 129 = .ok (.iconst 1, 1) := by decide +kernel
theorem dX10_walk_130 : decode cX10_walk 130 = .ok (.isub, 1) := by decide +kernel
theorem dX10_walk_131 : decode cX10_walk 131 = .ok (.istore 5, 2) := by decide +kernel
theorem dX10_walk_133 : decode cX10_walk 133 = .ok (.iconst 0, 1) := by decide +kernel
theorem dX10_walk_134 : decode cX10_walk 134 = .ok (.istore 6, 2) := by decide +kernel
theorem dX10_walk_136 : decode cX10_walk 136 = .ok (.iload 6, 2) := by decide +kernel
theorem dX10_walk_138 : decode cX10_walk 138 = .ok (.iconst 2, 1) := by decide +kernel
theorem dX10_walk_139 : decode cX10_walk 139 = .ok (.if_icmp .ge 63, 3) := by decide +kernel
theorem dX10_walk_142 : decode cX10_walk 142 = .ok (.iconst 0, 1) := by decide +kernel
theorem dX10_walk_143 : decode cX10_walk 143 = .ok (.istore 7, 2) := by decide +kernel
theorem dX10_walk_145 : decode cX10_walk 145 = .ok (.iload 7, 2) := by decide +kernel
theorem dX10_walk_147 : decode cX10_walk 147 = .ok (.aload_n 0, 1) := by decide +kernel
theorem dX10_walk_148 : decode cX10_walk 148 = .ok (.getfield 268, 3) := by decide +kernel
theorem dX10_walk_151 : decode cX10_walk 151 = .ok (.if_icmp .gt 45, 3) := by decide +kernel
theorem dX10_walk_154 : decode cX10_walk 154 = .ok (.aload_n 0, 1) := by decide +kernel
theorem dX10_walk_155 : decode cX10_walk 155 = .ok (.iload 4, 2) := by decide +kernel
theorem dX10_walk_157 : decode cX10_walk 157 = .ok (.iload 5, 2) := by decide +kernel
theorem dX10_walk_159 : decode cX10_walk 159 = .ok (.iload 6, 2) := by decide +kernel
theorem dX10_walk_161 : decode cX10_walk 161 = .ok (.iload 7, 2) := by decide +kernel
theorem dX10_walk_163 : decode cX10_walk 163 = .ok (.iload 4, 2) := by decide +kernel
theorem dX10_walk_165 : decode cX10_walk 165 = .ok (.iconst 1, 1) := by decide +kernel
theorem dX10_walk_166 : decode cX10_walk 166 = .ok (.isub, 1) := by decide +kernel
theorem dX10_walk_167 : decode cX10_walk 167 = .ok (.iload 5, 2) := by decide +kernel
theorem dX10_walk_169 : decode cX10_walk 169 = .ok (.invokevirtual 286, 3) := by decide +kernel
theorem dX10_walk_172 : decode cX10_walk 172 = .ok (.aload_n 0, 1) := by decide +kernel
theorem dX10_walk_173 : decode cX10_walk 173 = .ok (.iload 4, 2) := by decide +kernel
theorem dX10_walk_175 : decode cX10_walk 175 = .ok (.iload 5, 2) := by decide +kernel
theorem dX10_walk_177 : decode cX10_walk 177 = .ok (.iload 6, 2) := by decide +kernel
theorem dX10_walk_179 : decode cX10_walk 179 = .ok (.iload 7, 2) := by decide +kernel
theorem dX10_walk_181 : decode cX10_walk 181 = .ok (.iload 4, 2) := by decide +kernel
theorem dX10_walk_183 : decode cX10_walk 183 = .ok (.iload 5, 2) := by decide +kernel
theorem dX10_walk_185 : decode cX10_walk 185 = .ok (.iconst 1, 1) := by decide +kernel
theorem dX10_walk_186 : decode cX10_walk 186 = .ok (.iadd, 1) := by decide +kernel
theorem dX10_walk_187 : decode cX10_walk 187 = .ok (.invokevirtual 286, 3) := by decide +kernel
theorem dX10_walk_190 : decode cX10_walk 190 = .ok (.iinc 7 1, 3) := by decide +kernel
theorem dX10_walk_193 : decode cX10_walk 193 = .ok (.goto (-48), 3) := by decide +kernel
theorem dX10_walk_196 : decode cX10_walk 196 = .ok (.iinc 6 1, 3) := by decide +kernel
theorem dX10_walk_199 : decode cX10_walk 199 = .ok (.goto (-63), 3) := by decide +kernel
theorem dX10_walk_202 : decode cX10_walk 202 = .ok (.iinc 4 1, 3) := by decide +kernel
theorem dX10_walk_205 : decode cX10_walk 205 = .ok (.goto (-91), 3) := by decide +kernel
theorem dX10_walk_208 : decode cX10_walk 208 = .ok (.iinc 3 1, 3) := by decide +kernel
theorem dX10_walk_211 : decode cX10_walk 211 = .ok (.goto (-108), 3) := by decide +kernel
theorem dX10_walk_214 : decode cX10_walk 214 = .ok (.return_, 1) := by decide +kernel
theorem dX10_leastOf_0 : decode cX10_leastOf 0 = .ok (.ldc_w 278, 3) := by decide +kernel
theorem dX10_leastOf_3 : decode cX10_leastOf 3 = .ok (.istore_n 2, 1) := by decide +kernel
theorem dX10_leastOf_4 : decode cX10_leastOf 4 = .ok (.iconst 0, 1) := by decide +kernel
theorem dX10_leastOf_5 : decode cX10_leastOf 5 = .ok (.istore_n 3, 1) := by decide +kernel
theorem dX10_leastOf_6 : decode cX10_leastOf 6 = .ok (.iload_n 3, 1) := by decide +kernel
theorem dX10_leastOf_7 : decode cX10_leastOf 7 = .ok (.aload_n 0, 1) := by decide +kernel
theorem dX10_leastOf_8 : decode cX10_leastOf 8 = .ok (.getfield 271, 3) := by decide +kernel
theorem dX10_leastOf_11 : decode cX10_leastOf 11 = .ok (.if_icmp .ge 90, 3) := by decide +kernel
theorem dX10_leastOf_14 : decode cX10_leastOf 14 = .ok (.iload_n 3, 1) := by decide +kernel
theorem dX10_leastOf_15 : decode cX10_leastOf 15 = .ok (.istore 4, 2) := by decide +kernel
theorem dX10_leastOf_17 : decode cX10_leastOf 17 = .ok (.iload 4, 2) := by decide +kernel
theorem dX10_leastOf_19 : decode cX10_leastOf 19 = .ok (.aload_n 0, 1) := by decide +kernel
theorem dX10_leastOf_20 : decode cX10_leastOf 20 = .ok (.getfield 271, 3) := by decide +kernel
theorem dX10_leastOf_23 : decode cX10_leastOf 23 = .ok (.if_icmp .ge 72, 3) := by decide +kernel
theorem dX10_leastOf_26 : decode cX10_leastOf 26 = .ok (.iload_n 1, 1) := by decide +kernel
theorem dX10_leastOf_27 : decode cX10_leastOf 27 = .ok (.istore 5, 2) := by decide +kernel
theorem dX10_leastOf_29 : decode cX10_leastOf 29 = .ok (.iload 5, 2) := by decide +kernel
theorem dX10_leastOf_31 : decode cX10_leastOf 31 = .ok (.aload_n 0, 1) := by decide +kernel
theorem dX10_leastOf_32 : decode cX10_leastOf 32 = .ok (.getfield 268, 3) := by decide +kernel
theorem dX10_leastOf_35 : decode cX10_leastOf 35 = .ok (.if_icmp .gt 54, 3) := by decide +kernel
theorem dX10_leastOf_38 : decode cX10_leastOf 38 = .ok (.iconst 0, 1) := by decide +kernel
theorem dX10_leastOf_39 : decode cX10_leastOf 39 = .ok (.istore 6, 2) := by decide +kernel
theorem dX10_leastOf_41 : decode cX10_leastOf 41 = .ok (.iload 6, 2) := by decide +kernel
theorem dX10_leastOf_43 : decode cX10_leastOf 43 = .ok (.iconst 2, 1) := by decide +kernel
theorem dX10_leastOf_44 : decode cX10_leastOf 44 = .ok (.if_icmp .ge 39, 3) := by decide +kernel
theorem dX10_leastOf_47 : decode cX10_leastOf 47 = .ok (.aload_n 0, 1) := by decide +kernel
theorem dX10_leastOf_48 : decode cX10_leastOf 48 = .ok (.getfield 114, 3) := by decide +kernel
theorem dX10_leastOf_51 : decode cX10_leastOf 51 = .ok (.iload_n 3, 1) := by decide +kernel
theorem dX10_leastOf_52 : decode cX10_leastOf 52 = .ok (.iload 4, 2) := by decide +kernel
theorem dX10_leastOf_54 : decode cX10_leastOf 54 = .ok (.iload 6, 2) := by decide +kernel
theorem dX10_leastOf_56 : decode cX10_leastOf 56 = .ok (.iload 5, 2) := by decide +kernel
theorem dX10_leastOf_58 : decode cX10_leastOf 58 = .ok (.invokestatic 274, 3) := by decide +kernel
theorem dX10_leastOf_61 : decode cX10_leastOf 61 = .ok (.iaload, 1) := by decide +kernel
theorem dX10_leastOf_62 : decode cX10_leastOf 62 = .ok (.istore 7, 2) := by decide +kernel
theorem dX10_leastOf_64 : decode cX10_leastOf 64 = .ok (.iload 7, 2) := by decide +kernel
theorem dX10_leastOf_66 : decode cX10_leastOf 66 = .ok (.iload_n 2, 1) := by decide +kernel
theorem dX10_leastOf_67 : decode cX10_leastOf 67 = .ok (.if_icmp .ge 8, 3) := by decide +kernel
theorem dX10_leastOf_70 : decode cX10_leastOf 70 = .ok (.iload 7, 2) := by decide +kernel
theorem dX10_leastOf_72 : decode cX10_leastOf 72 = .ok (.goto 4, 3) := by decide +kernel
theorem dX10_leastOf_75 : decode cX10_leastOf 75 = .ok (.iload_n 2, 1) := by decide +kernel
theorem dX10_leastOf_76 : decode cX10_leastOf 76 = .ok (.istore_n 2, 1) := by decide +kernel
theorem dX10_leastOf_77 : decode cX10_leastOf 77 = .ok (.iinc 6 1, 3) := by decide +kernel
theorem dX10_leastOf_80 : decode cX10_leastOf 80 = .ok (.goto (-39), 3) := by decide +kernel
theorem dX10_leastOf_83 : decode cX10_leastOf 83 = .ok (.iinc 5 1, 3) := by decide +kernel
theorem dX10_leastOf_86 : decode cX10_leastOf 86 = .ok (.goto (-57), 3) := by decide +kernel
theorem dX10_leastOf_89 : decode cX10_leastOf 89 = .ok (.iinc 4 1, 3) := by decide +kernel
theorem dX10_leastOf_92 : decode cX10_leastOf 92 = .ok (.goto (-75), 3) := by decide +kernel
theorem dX10_leastOf_95 : decode cX10_leastOf 95 = .ok (.iinc 3 1, 3) := by decide +kernel
theorem dX10_leastOf_98 : decode cX10_leastOf 98 = .ok (.goto (-92), 3) := by decide +kernel
theorem dX10_leastOf_101 : decode cX10_leastOf 101 = .ok (.iload_n 2, 1) := by decide +kernel
theorem dX10_leastOf_102 : decode cX10_leastOf 102 = .ok (.ireturn, 1) := by decide +kernel
theorem dX10_most_0 : decode cX10_most 0 = .ok (.aload_n 0, 1) := by decide +kernel
theorem dX10_most_1 : decode cX10_most 1 = .ok (.iconst 0, 1) := by decide +kernel
theorem dX10_most_2 : decode cX10_most 2 = .ok (.putfield 117, 3) := by decide +kernel
theorem dX10_most_5 : decode cX10_most 5 = .ok (.iload_n 1, 1) := by decide +kernel
theorem dX10_most_6 : decode cX10_most 6 = .ok (.i2l, 1) := by decide +kernel
theorem dX10_most_7 : decode cX10_most 7 = .ok (.lconst 0, 1) := by decide +kernel
theorem dX10_most_8 : decode cX10_most 8 = .ok (.ldc2_w 134, 3) := by decide +kernel
theorem dX10_most_11 : decode cX10_most 11 = .ok (.invokestatic 125, 3) := by decide +kernel
theorem dX10_most_14 : decode cX10_most 14 = .ok (.ifCond .ne 5, 3) := by decide +kernel
theorem dX10_most_17 : decode cX10_most 17 = .ok (.iconst (-1), 1) := by decide +kernel
theorem dX10_most_18 : decode cX10_most 18 = .ok (.ireturn, 1) := by decide +kernel
theorem dX10_most_19 : decode cX10_most 19 = .ok (.aload_n 0, 1) := by decide +kernel
theorem dX10_most_20 : decode cX10_most 20 = .ok (.iload_n 1, 1) := by decide +kernel
theorem dX10_most_21 : decode cX10_most 21 = .ok (.invokevirtual 290, 3) := by decide +kernel
theorem dX10_most_24 : decode cX10_most 24 = .ok (.aload_n 0, 1) := by decide +kernel
theorem dX10_most_25 : decode cX10_most 25 = .ok (.getfield 268, 3) := by decide +kernel
theorem dX10_most_28 : decode cX10_most 28 = .ok (.istore_n 2, 1) := by decide +kernel
theorem dX10_most_29 : decode cX10_most 29 = .ok (.aload_n 0, 1) := by decide +kernel
theorem dX10_most_30 : decode cX10_most 30 = .ok (.iload_n 2, 1) := by decide +kernel
theorem dX10_most_31 : decode cX10_most 31 = .ok (.invokevirtual 293, 3) := by decide +kernel
theorem dX10_most_34 : decode cX10_most 34 = .ok (.ldc_w 278, 3) := by decide +kernel
theorem dX10_most_37 : decode cX10_most 37 = .ok (.if_icmp .ne 9, 3) := by decide +kernel
theorem dX10_most_40 : decode cX10_most 40 = .ok (.iinc 2 (-1), 3) := by decide +kernel
theorem dX10_most_43 : decode cX10_most 43 = .ok (.goto (-14), 3) := by decide +kernel
theorem dX10_most_46 : decode cX10_most 46 = .ok (.iload_n 2, 1) := by decide +kernel
theorem dX10_most_47 : decode cX10_most 47 = .ok (.ireturn, 1) := by decide +kernel
theorem dX10_least_0 : decode cX10_least 0 = .ok (.aload_n 0, 1) := by decide +kernel
theorem dX10_least_1 : decode cX10_least 1 = .ok (.iconst 0, 1) := by decide +kernel
theorem dX10_least_2 : decode cX10_least 2 = .ok (.putfield 117, 3) := by decide +kernel
theorem dX10_least_5 : decode cX10_least 5 = .ok (.iload_n 1, 1) := by decide +kernel
theorem dX10_least_6 : decode cX10_least 6 = .ok (.i2l, 1) := by decide +kernel
theorem dX10_least_7 : decode cX10_least 7 = .ok (.lconst 0, 1) := by decide +kernel
theorem dX10_least_8 : decode cX10_least 8 = .ok (.ldc2_w 134, 3) := by decide +kernel
theorem dX10_least_11 : decode cX10_least 11 = .ok (.invokestatic 125, 3) := by decide +kernel
theorem dX10_least_14 : decode cX10_least 14 = .ok (.ifCond .eq 17, 3) := by decide +kernel
theorem dX10_least_17 : decode cX10_least 17 = .ok (.iload_n 2, 1) := by decide +kernel
theorem dX10_least_18 : decode cX10_least 18 = .ok (.i2l, 1) := by decide +kernel
theorem dX10_least_19 : decode cX10_least 19 = .ok (.lconst 0, 1) := by decide +kernel
theorem dX10_least_20 : decode cX10_least 20 = .ok (.aload_n 0, 1) := by decide +kernel
theorem dX10_least_21 : decode cX10_least 21 = .ok (.getfield 268, 3) := by decide +kernel
theorem dX10_least_24 : decode cX10_least 24 = .ok (.i2l, 1) := by decide +kernel
theorem dX10_least_25 : decode cX10_least 25 = .ok (.invokestatic 125, 3) := by decide +kernel
theorem dX10_least_28 : decode cX10_least 28 = .ok (.ifCond .ne 5, 3) := by decide +kernel
theorem dX10_least_31 : decode cX10_least 31 = .ok (.iconst (-1), 1) := by decide +kernel
theorem dX10_least_32 : decode cX10_least 32 = .ok (.ireturn, 1) := by decide +kernel
theorem dX10_least_33 : decode cX10_least 33 = .ok (.aload_n 0, 1) := by decide +kernel
theorem dX10_least_34 : decode cX10_least 34 = .ok (.iload_n 1, 1) := by decide +kernel
theorem dX10_least_35 : decode cX10_least 35 = .ok (.invokevirtual 290, 3) := by decide +kernel
theorem dX10_least_38 : decode cX10_least 38 = .ok (.aload_n 0, 1) := by decide +kernel
theorem dX10_least_39 : decode cX10_least 39 = .ok (.iload_n 2, 1) := by decide +kernel
theorem dX10_least_40 : decode cX10_least 40 = .ok (.invokevirtual 293, 3) := by decide +kernel
theorem dX10_least_43 : decode cX10_least 43 = .ok (.istore_n 3, 1) := by decide +kernel
theorem dX10_least_44 : decode cX10_least 44 = .ok (.iload_n 3, 1) := by decide +kernel
theorem dX10_least_45 : decode cX10_least 45 = .ok (.ldc_w 278, 3) := by decide +kernel
theorem dX10_least_48 : decode cX10_least 48 = .ok (.if_icmp .ne 7, 3) := by decide +kernel
theorem dX10_least_51 : decode cX10_least 51 = .ok (.iconst (-1), 1) := by decide +kernel
theorem dX10_least_52 : decode cX10_least 52 = .ok (.goto 4, 3) := by decide +kernel
theorem dX10_least_55 : decode cX10_least 55 = .ok (.iload_n 3, 1) := by decide +kernel
theorem dX10_least_56 : decode cX10_least 56 = .ok (.ireturn, 1) := by decide +kernel
theorem dX10_led_0 : decode cX10_led 0 = .ok (.aload_n 0, 1) := by decide +kernel
theorem dX10_led_1 : decode cX10_led 1 = .ok (.iconst 0, 1) := by decide +kernel
theorem dX10_led_2 : decode cX10_led 2 = .ok (.putfield 117, 3) := by decide +kernel
theorem dX10_led_5 : decode cX10_led 5 = .ok (.iload_n 1, 1) := by decide +kernel
theorem dX10_led_6 : decode cX10_led 6 = .ok (.ifCond .lt 10, 3) := by decide +kernel
theorem dX10_led_9 : decode cX10_led 9 = .ok (.iload_n 2, 1) := by decide +kernel
theorem dX10_led_10 : decode cX10_led 10 = .ok (.invokestatic 144, 3) := by decide +kernel
theorem dX10_led_13 : decode cX10_led 13 = .ok (.ifCond .ne 5, 3) := by decide +kernel
theorem dX10_led_16 : decode cX10_led 16 = .ok (.iconst (-1), 1) := by decide +kernel
theorem dX10_led_17 : decode cX10_led 17 = .ok (.ireturn, 1) := by decide +kernel
theorem dX10_led_18 : decode cX10_led 18 = .ok (.iload_n 1, 1) := by decide +kernel
theorem dX10_led_19 : decode cX10_led 19 = .ok (.istore_n 3, 1) := by decide +kernel
theorem dX10_led_20 : decode cX10_led 20 = .ok (.iconst 0, 1) := by decide +kernel
theorem dX10_led_21 : decode cX10_led 21 = .ok (.istore 4, 2) := by decide +kernel
theorem dX10_led_23 : decode cX10_led 23 = .ok (.iload 4, 2) := by decide +kernel
theorem dX10_led_25 : decode cX10_led 25 = .ok (.aload_n 0, 1) := by decide +kernel
theorem dX10_led_26 : decode cX10_led 26 = .ok (.getfield 156, 3) := by decide +kernel
theorem dX10_led_29 : decode cX10_led 29 = .ok (.if_icmp .ge 49, 3) := by decide +kernel
theorem dX10_led_32 : decode cX10_led 32 = .ok (.aload_n 0, 1) := by decide +kernel
theorem dX10_led_33 : decode cX10_led 33 = .ok (.getfield 37, 3) := by decide +kernel
theorem dX10_led_36 : decode cX10_led 36 = .ok (.iload 4, 2) := by decide +kernel
theorem dX10_led_38 : decode cX10_led 38 = .ok (.iaload, 1) := by decide +kernel
theorem dX10_led_39 : decode cX10_led 39 = .ok (.iload_n 2, 1) := by decide +kernel
theorem dX10_led_40 : decode cX10_led 40 = .ok (.if_icmp .gt 32, 3) := by decide +kernel
theorem dX10_led_43 : decode cX10_led 43 = .ok (.iload_n 3, 1) := by decide +kernel
theorem dX10_led_44 : decode cX10_led 44 = .ok (.aload_n 0, 1) := by decide +kernel
theorem dX10_led_45 : decode cX10_led 45 = .ok (.getfield 31, 3) := by decide +kernel
theorem dX10_led_48 : decode cX10_led 48 = .ok (.iload 4, 2) := by decide +kernel
theorem dX10_led_50 : decode cX10_led 50 = .ok (.iaload, 1) := by decide +kernel
theorem dX10_led_51 : decode cX10_led 51 = .ok (.if_icmp .ge 11, 3) := by decide +kernel
theorem dX10_led_54 : decode cX10_led 54 = .ok (.aload_n 0, 1) := by decide +kernel
theorem dX10_led_55 : decode cX10_led 55 = .ok (.getfield 28, 3) := by decide +kernel
theorem dX10_led_58 : decode cX10_led 58 = .ok (.iload 4, 2) := by decide +kernel
theorem dX10_led_60 : decode cX10_led 60 = .ok (.iaload, 1) := by decide +kernel
theorem dX10_led_61 : decode cX10_led 61 = .ok (.ireturn, 1) := by decide +kernel
theorem dX10_led_62 : decode cX10_led 62 = .ok (.iload_n 3, 1) := by decide +kernel
theorem dX10_led_63 : decode cX10_led 63 = .ok (.aload_n 0, 1) := by decide +kernel
theorem dX10_led_64 : decode cX10_led 64 = .ok (.getfield 31, 3) := by decide +kernel
theorem dX10_led_67 : decode cX10_led 67 = .ok (.iload 4, 2) := by decide +kernel
theorem dX10_led_69 : decode cX10_led 69 = .ok (.iaload, 1) := by decide +kernel
theorem dX10_led_70 : decode cX10_led 70 = .ok (.isub, 1) := by decide +kernel
theorem dX10_led_71 : decode cX10_led 71 = .ok (.istore_n 3, 1) := by decide +kernel
theorem dX10_led_72 : decode cX10_led 72 = .ok (.iinc 4 1, 3) := by decide +kernel
theorem dX10_led_75 : decode cX10_led 75 = .ok (.goto (-52), 3) := by decide +kernel
theorem dX10_led_78 : decode cX10_led 78 = .ok (.iconst (-1), 1) := by decide +kernel
theorem dX10_led_79 : decode cX10_led 79 = .ok (.ireturn, 1) := by decide +kernel
theorem dX10_count_0 : decode cX10_count 0 = .ok (.aload_n 0, 1) := by decide +kernel
theorem dX10_count_1 : decode cX10_count 1 = .ok (.iconst 0, 1) := by decide +kernel
theorem dX10_count_2 : decode cX10_count 2 = .ok (.putfield 117, 3) := by decide +kernel
theorem dX10_count_5 : decode cX10_count 5 = .ok (.iload_n 1, 1) := by decide +kernel
theorem dX10_count_6 : decode cX10_count 6 = .ok (.tableswitch 110 0 7 #[46, 51, 56, 61, 66, 71, 76, 81], 46) := by decide +kernel
theorem dX10_count_52 : decode cX10_count 52 = .ok (.aload_n 0, 1) := by decide +kernel
theorem dX10_count_53 : decode cX10_count 53 = .ok (.getfield 129, 3) := by decide +kernel
theorem dX10_count_56 : decode cX10_count 56 = .ok (.ireturn, 1) := by decide +kernel
theorem dX10_count_57 : decode cX10_count 57 = .ok (.aload_n 0, 1) := by decide +kernel
theorem dX10_count_58 : decode cX10_count 58 = .ok (.getfield 151, 3) := by decide +kernel
theorem dX10_count_61 : decode cX10_count 61 = .ok (.ireturn, 1) := by decide +kernel
theorem dX10_count_62 : decode cX10_count 62 = .ok (.aload_n 0, 1) := by decide +kernel
theorem dX10_count_63 : decode cX10_count 63 = .ok (.getfield 156, 3) := by decide +kernel
theorem dX10_count_66 : decode cX10_count 66 = .ok (.ireturn, 1) := by decide +kernel
theorem dX10_count_67 : decode cX10_count 67 = .ok (.aload_n 0, 1) := by decide +kernel
theorem dX10_count_68 : decode cX10_count 68 = .ok (.getfield 231, 3) := by decide +kernel
theorem dX10_count_71 : decode cX10_count 71 = .ok (.ireturn, 1) := by decide +kernel
theorem dX10_count_72 : decode cX10_count 72 = .ok (.aload_n 0, 1) := by decide +kernel
theorem dX10_count_73 : decode cX10_count 73 = .ok (.getfield 254, 3) := by decide +kernel
theorem dX10_count_76 : decode cX10_count 76 = .ok (.ireturn, 1) := by decide +kernel
theorem dX10_count_77 : decode cX10_count 77 = .ok (.aload_n 0, 1) := by decide +kernel
theorem dX10_count_78 : decode cX10_count 78 = .ok (.getfield 268, 3) := by decide +kernel
theorem dX10_count_81 : decode cX10_count 81 = .ok (.ireturn, 1) := by decide +kernel
theorem dX10_count_82 : decode cX10_count 82 = .ok (.aload_n 0, 1) := by decide +kernel
theorem dX10_count_83 : decode cX10_count 83 = .ok (.getfield 159, 3) := by decide +kernel
theorem dX10_count_86 : decode cX10_count 86 = .ok (.ireturn, 1) := by decide +kernel
theorem dX10_count_87 : decode cX10_count 87 = .ok (.iconst 0, 1) := by decide +kernel
theorem dX10_count_88 : decode cX10_count 88 = .ok (.istore_n 2, 1) := by decide +kernel
theorem dX10_count_89 : decode cX10_count 89 = .ok (.iconst 0, 1) := by decide +kernel
theorem dX10_count_90 : decode cX10_count 90 = .ok (.istore_n 3, 1) := by decide +kernel
theorem dX10_count_91 : decode cX10_count 91 = .ok (.iload_n 3, 1) := by decide +kernel
theorem dX10_count_92 : decode cX10_count 92 = .ok (.aload_n 0, 1) := by decide +kernel
theorem dX10_count_93 : decode cX10_count 93 = .ok (.getfield 156, 3) := by decide +kernel
theorem dX10_count_96 : decode cX10_count 96 = .ok (.if_icmp .ge 18, 3) := by decide +kernel
theorem dX10_count_99 : decode cX10_count 99 = .ok (.iload_n 2, 1) := by decide +kernel
theorem dX10_count_100 : decode cX10_count 100 = .ok (.aload_n 0, 1) := by decide +kernel
theorem dX10_count_101 : decode cX10_count 101 = .ok (.getfield 31, 3) := by decide +kernel
theorem dX10_count_104 : decode cX10_count 104 = .ok (.iload_n 3, 1) := by decide +kernel
theorem dX10_count_105 : decode cX10_count 105 = .ok (.iaload, 1) := by decide +kernel
theorem dX10_count_106 : decode cX10_count 106 = .ok (.iadd, 1) := by decide +kernel
theorem dX10_count_107 : decode cX10_count 107 = .ok (.istore_n 2, 1) := by decide +kernel
theorem dX10_count_108 : decode cX10_count 108 = .ok (.iinc 3 1, 3) := by decide +kernel
theorem dX10_count_111 : decode cX10_count 111 = .ok (.goto (-20), 3) := by decide +kernel
theorem dX10_count_114 : decode cX10_count 114 = .ok (.iload_n 2, 1) := by decide +kernel
theorem dX10_count_115 : decode cX10_count 115 = .ok (.ireturn, 1) := by decide +kernel
theorem dX10_count_116 : decode cX10_count 116 = .ok (.iconst (-1), 1) := by decide +kernel
theorem dX10_count_117 : decode cX10_count 117 = .ok (.ireturn, 1) := by decide +kernel
theorem dX10_status_0 : decode cX10_status 0 = .ok (.aload_n 0, 1) := by decide +kernel
theorem dX10_status_1 : decode cX10_status 1 = .ok (.iconst 0, 1) := by decide +kernel
theorem dX10_status_2 : decode cX10_status 2 = .ok (.putfield 117, 3) := by decide +kernel
theorem dX10_status_5 : decode cX10_status 5 = .ok (.aload_n 0, 1) := by decide +kernel
theorem dX10_status_6 : decode cX10_status 6 = .ok (.getfield 120, 3) := by decide +kernel
theorem dX10_status_9 : decode cX10_status 9 = .ok (.ireturn, 1) := by decide +kernel
