theorem dL_acts_0 : decode cL_acts 0 = .ok (.iload 7, 2) := by decide +kernel
theorem dL_acts_2 : decode cL_acts 2 = .ok (.bipush 26, 2) := by decide +kernel
theorem dL_acts_4 : decode cL_acts 4 = .ok (.invokestatic 143, 3) := by decide +kernel
theorem dL_acts_7 : decode cL_acts 7 = .ok (.istore 9, 2) := by decide +kernel
theorem dL_acts_9 : decode cL_acts 9 = .ok (.iload 7, 2) := by decide +kernel
theorem dL_acts_11 : decode cL_acts 11 = .ok (.iconst 5, 1) := by decide +kernel
theorem dL_acts_12 : decode cL_acts 12 = .ok (.ishr, 1) := by decide +kernel
theorem dL_acts_13 : decode cL_acts 13 = .ok (.iconst 5, 1) := by decide +kernel
theorem dL_acts_14 : decode cL_acts 14 = .ok (.invokestatic 143, 3) := by decide +kernel
theorem dL_acts_17 : decode cL_acts 17 = .ok (.istore 10, 2) := by decide +kernel
theorem dL_acts_19 : decode cL_acts 19 = .ok (.iload 8, 2) := by decide +kernel
theorem dL_acts_21 : decode cL_acts 21 = .ok (.iconst 3, 1) := by decide +kernel
theorem dL_acts_22 : decode cL_acts 22 = .ok (.ishr, 1) := by decide +kernel
theorem dL_acts_23 : decode cL_acts 23 = .ok (.bipush 6, 2) := by decide +kernel
theorem dL_acts_25 : decode cL_acts 25 = .ok (.invokestatic 143, 3) := by decide +kernel
theorem dL_acts_28 : decode cL_acts 28 = .ok (.istore 11, 2) := by decide +kernel
theorem dL_acts_30 : decode cL_acts 30 = .ok (.iload 9, 2) := by decide +kernel
theorem dL_acts_32 : decode cL_acts 32 = .ok (.bipush 7, 2) := by decide +kernel
theorem dL_acts_34 : decode cL_acts 34 = .ok (.if_icmp .ge 15, 3) := by decide +kernel
theorem dL_acts_37 : decode cL_acts 37 = .ok (.aload_n 0, 1) := by decide +kernel
theorem dL_acts_38 : decode cL_acts 38 = .ok (.aload_n 1, 1) := by decide +kernel
theorem dL_acts_39 : decode cL_acts 39 = .ok (.aload 6, 2) := by decide +kernel
theorem dL_acts_41 : decode cL_acts 41 = .ok (.iload 7, 2) := by decide +kernel
theorem dL_acts_43 : decode cL_acts 43 = .ok (.iload 8, 2) := by decide +kernel
theorem dL_acts_45 : decode cL_acts 45 = .ok (.invokestatic 154, 3) := by decide +kernel
theorem dL_acts_48 : decode cL_acts 48 = .ok (.ireturn, 1) := by decide +kernel
theorem dL_acts_49 : decode cL_acts 49 = .ok (.iload 9, 2) := by decide +kernel
theorem dL_acts_51 : decode cL_acts 51 = .ok (.bipush 9, 2) := by decide +kernel
theorem dL_acts_53 : decode cL_acts 53 = .ok (.if_icmp .ge 77, 3) := by decide +kernel
theorem dL_acts_56 : decode cL_acts 56 = .ok (.iconst 1, 1) := by decide +kernel
theorem dL_acts_57 : decode cL_acts 57 = .ok (.iload 8, 2) := by decide +kernel
theorem dL_acts_59 : decode cL_acts 59 = .ok (.bipush 40, 2) := by decide +kernel
theorem dL_acts_61 : decode cL_acts 61 = .ok (.invokestatic 143, 3) := by decide +kernel
theorem dL_acts_64 : decode cL_acts 64 = .ok (.iadd, 1) := by decide +kernel
theorem dL_acts_65 : decode cL_acts 65 = .ok (.istore 12, 2) := by decide +kernel
theorem dL_acts_67 : decode cL_acts 67 = .ok (.aload 6, 2) := by decide +kernel
theorem dL_acts_69 : decode cL_acts 69 = .ok (.iconst 0, 1) := by decide +kernel
theorem dL_acts_70 : decode cL_acts 70 = .ok (.dup2, 1) := by decide +kernel
theorem dL_acts_71 : decode cL_acts 71 = .ok (.iaload, 1) := by decide +kernel
theorem dL_acts_72 : decode cL_acts 72 = .ok (.iload 12, 2) := by decide +kernel
theorem dL_acts_74 : decode cL_acts 74 = .ok (.iadd, 1) := by decide +kernel
theorem dL_acts_75 : decode cL_acts 75 = .ok (.iastore, 1) := by decide +kernel
theorem dL_acts_76 : decode cL_acts 76 = .ok (.aload_n 0, 1) := by decide +kernel
theorem dL_acts_77 : decode cL_acts 77 = .ok (.iload 12, 2) := by decide +kernel
theorem dL_acts_79 : decode cL_acts 79 = .ok (.invokestatic 157, 3) := by decide +kernel
theorem dL_acts_82 : decode cL_acts 82 = .ok (.aload 6, 2) := by decide +kernel
theorem dL_acts_84 : decode cL_acts 84 = .ok (.iconst 0, 1) := by decide +kernel
theorem dL_acts_85 : decode cL_acts 85 = .ok (.iaload, 1) := by decide +kernel
theorem dL_acts_86 : decode cL_acts 86 = .ok (.if_icmp .ne 42, 3) := by decide +kernel
theorem dL_acts_89 : decode cL_acts 89 = .ok (.aload_n 1, 1) := by decide +kernel
theorem dL_acts_90 : decode cL_acts 90 = .ok (.iload 12, 2) := by decide +kernel
theorem dL_acts_92 : decode cL_acts 92 = .ok (.invokestatic 157, 3) := by decide +kernel
theorem dL_acts_95 : decode cL_acts 95 = .ok (.aload 6, 2) := by decide +kernel
theorem dL_acts_97 : decode cL_acts 97 = .ok (.iconst 0, 1) := by decide +kernel
theorem dL_acts_98 : decode cL_acts 98 = .ok (.iaload, 1) := by decide +kernel
theorem dL_acts_99 : decode cL_acts 99 = .ok (.if_icmp .ne 29, 3) := by decide +kernel
theorem dL_acts_102 : decode cL_acts 102 = .ok (.aload_n 0, 1) := by decide +kernel
theorem dL_acts_103 : decode cL_acts 103 = .ok (.iconst 0, 1) := by decide +kernel
theorem dL_acts_104 : decode cL_acts 104 = .ok (.invokestatic 157, 3) := by decide +kernel
theorem dL_acts_107 : decode cL_acts 107 = .ok (.ldc 21, 2) := by decide +kernel
theorem dL_acts_109 : decode cL_acts 109 = .ok (.if_icmp .ne 19, 3) := by decide +kernel
theorem dL_acts_112 : decode cL_acts 112 = .ok (.aload_n 0, 1) := by decide +kernel
theorem dL_acts_113 : decode cL_acts 113 = .ok (.sipush 1001, 3) := by decide +kernel
theorem dL_acts_116 : decode cL_acts 116 = .ok (.invokestatic 157, 3) := by decide +kernel
theorem dL_acts_119 : decode cL_acts 119 = .ok (.ldc 21, 2) := by decide +kernel
theorem dL_acts_121 : decode cL_acts 121 = .ok (.if_icmp .ne 7, 3) := by decide +kernel
theorem dL_acts_124 : decode cL_acts 124 = .ok (.iconst 1, 1) := by decide +kernel
theorem dL_acts_125 : decode cL_acts 125 = .ok (.goto 4, 3) := by decide +kernel
theorem dL_acts_128 : decode cL_acts 128 = .ok (.iconst 0, 1) := by decide +kernel
theorem dL_acts_129 : decode cL_acts 129 = .ok (.ireturn, 1) := by decide +kernel
theorem dL_acts_130 : decode cL_acts 130 = .ok (.iload 9, 2) := by decide +kernel
theorem dL_acts_132 : decode cL_acts 132 = .ok (.bipush 9, 2) := by decide +kernel
theorem dL_acts_134 : decode cL_acts 134 = .ok (.if_icmp .ne 165, 3) := by decide +kernel
theorem dL_acts_137 : decode cL_acts 137 = .ok (.aload_n 2, 1) := by decide +kernel
theorem dL_acts_138 : decode cL_acts 138 = .ok (.iload 10, 2) := by decide +kernel
theorem dL_acts_140 : decode cL_acts 140 = .ok (.iaload, 1) := by decide +kernel
theorem dL_acts_141 : decode cL_acts 141 = .ok (.istore 12, 2) := by decide +kernel
theorem dL_acts_143 : decode cL_acts 143 = .ok (.aload_n 2, 1) := by decide +kernel
theorem dL_acts_144 : decode cL_acts 144 = .ok (.iconst 5, 1) := by decide +kernel
theorem dL_acts_145 : decode cL_acts 145 = .ok (.iload 11, 2) := by decide +kernel
theorem dL_acts_147 : decode cL_acts 147 = .ok (.iadd, 1) := by decide +kernel
theorem dL_acts_148 : decode cL_acts 148 = .ok (.iaload, 1) := by decide +kernel
theorem dL_acts_149 : decode cL_acts 149 = .ok (.istore 13, 2) := by decide +kernel
theorem dL_acts_151 : decode cL_acts 151 = .ok (.aload_n 2, 1) := by decide +kernel
theorem dL_acts_152 : decode cL_acts 152 = .ok (.iload 10, 2) := by decide +kernel
theorem dL_acts_154 : decode cL_acts 154 = .ok (.iload 8, 2) := by decide +kernel
theorem dL_acts_156 : decode cL_acts 156 = .ok (.bipush 6, 2) := by decide +kernel
theorem dL_acts_158 : decode cL_acts 158 = .ok (.invokestatic 143, 3) := by decide +kernel
theorem dL_acts_161 : decode cL_acts 161 = .ok (.iastore, 1) := by decide +kernel
theorem dL_acts_162 : decode cL_acts 162 = .ok (.aload_n 2, 1) := by decide +kernel
theorem dL_acts_163 : decode cL_acts 163 = .ok (.iconst 5, 1) := by decide +kernel
theorem dL_acts_164 : decode cL_acts 164 = .ok (.iload 11, 2) := by decide +kernel
theorem dL_acts_166 : decode cL_acts 166 = .ok (.iadd, 1) := by decide +kernel
theorem dL_acts_167 : decode cL_acts 167 = .ok (.iload 8, 2) := by decide +kernel
theorem dL_acts_169 : decode cL_acts 169 = .ok (.bipush 6, 2) := by decide +kernel
theorem dL_acts_171 : decode cL_acts 171 = .ok (.ishr, 1) := by decide +kernel
theorem dL_acts_172 : decode cL_acts 172 = .ok (.sipush 300, 3) := by decide +kernel
theorem dL_acts_175 : decode cL_acts 175 = .ok (.invokestatic 143, 3) := by decide +kernel
theorem dL_acts_178 : decode cL_acts 178 = .ok (.iastore, 1) := by decide +kernel
theorem dL_acts_179 : decode cL_acts 179 = .ok (.aload_n 0, 1) := by decide +kernel
theorem dL_acts_180 : decode cL_acts 180 = .ok (.iload 10, 2) := by decide +kernel
theorem dL_acts_182 : decode cL_acts 182 = .ok (.aload_n 2, 1) := by decide +kernel
theorem dL_acts_183 : decode cL_acts 183 = .ok (.iload 10, 2) := by decide +kernel
theorem dL_acts_185 : decode cL_acts 185 = .ok (.iaload, 1) := by decide +kernel
theorem dL_acts_186 : decode cL_acts 186 = .ok (.invokestatic 159, 3) := by decide +kernel
theorem dL_acts_189 : decode cL_acts 189 = .ok (.iload 12, 2) := by decide +kernel
theorem dL_acts_191 : decode cL_acts 191 = .ok (.if_icmp .ne 106, 3) := by decide +kernel
theorem dL_acts_194 : decode cL_acts 194 = .ok (.aload_n 1, 1) := by decide +kernel
theorem dL_acts_195 : decode cL_acts 195 = .ok (.iload 10, 2) := by decide +kernel
theorem dL_acts_197 : decode cL_acts 197 = .ok (.aload_n 2, 1) := by decide +kernel
theorem dL_acts_198 : decode cL_acts 198 = .ok (.iload 10, 2) := by decide +kernel
theorem dL_acts_200 : decode cL_acts 200 = .ok (.iaload, 1) := by decide +kernel
theorem dL_acts_201 : decode cL_acts 201 = .ok (.invokestatic 159, 3) := by decide +kernel
theorem dL_acts_204 : decode cL_acts 204 = .ok (.iload 12, 2) := by decide +kernel
theorem dL_acts_206 : decode cL_acts 206 = .ok (.if_icmp .ne 91, 3) := by decide +kernel
theorem dL_acts_209 : decode cL_acts 209 = .ok (.aload_n 0, 1) := by decide +kernel
theorem dL_acts_210 : decode cL_acts 210 = .ok (.iload 11, 2) := by decide +kernel
theorem dL_acts_212 : decode cL_acts 212 = .ok (.aload_n 2, 1) := by decide +kernel
theorem dL_acts_213 : decode cL_acts 213 = .ok (.iconst 5, 1) := by decide +kernel
theorem dL_acts_214 : decode cL_acts 214 = .ok (.iload 11, 2) := by decide +kernel
theorem dL_acts_216 : decode cL_acts 216 = .ok (.iadd, 1) := by decide +kernel
theorem dL_acts_217 : decode cL_acts 217 = .ok (.iaload, 1) := by decide +kernel
theorem dL_acts_218 : decode cL_acts 218 = .ok (.invokestatic 161, 3) := by decide +kernel
theorem dL_acts_221 : decode cL_acts 221 = .ok (.iload 13, 2) := by decide +kernel
theorem dL_acts_223 : decode cL_acts 223 = .ok (.if_icmp .ne 74, 3) := by decide +kernel
theorem dL_acts_226 : decode cL_acts 226 = .ok (.aload_n 1, 1) := by decide +kernel
theorem dL_acts_227 : decode cL_acts 227 = .ok (.iload 11, 2) := by decide +kernel
theorem dL_acts_229 : decode cL_acts 229 = .ok (.aload_n 2, 1) := by decide +kernel
theorem dL_acts_230 : decode cL_acts 230 = .ok (.iconst 5, 1) := by decide +kernel
theorem dL_acts_231 : decode cL_acts 231 = .ok (.iload 11, 2) := by decide +kernel
theorem dL_acts_233 : decode cL_acts 233 = .ok (.iadd, 1) := by decide +kernel
theorem dL_acts_234 : decode cL_acts 234 = .ok (.iaload, 1) := by decide +kernel
theorem dL_acts_235 : decode cL_acts 235 = .ok (.invokestatic 161, 3) := by decide +kernel
theorem dL_acts_238 : decode cL_acts 238 = .ok (.iload 13, 2) := by decide +kernel
theorem dL_acts_240 : decode cL_acts 240 = .ok (.if_icmp .ne 57, 3) := by decide +kernel
theorem dL_acts_243 : decode cL_acts 243 = .ok (.aload_n 0, 1) := by decide +kernel
theorem dL_acts_244 : decode cL_acts 244 = .ok (.iconst 0, 1) := by decide +kernel
theorem dL_acts_245 : decode cL_acts 245 = .ok (.sipush 1001, 3) := by decide +kernel
theorem dL_acts_248 : decode cL_acts 248 = .ok (.invokestatic 159, 3) := by decide +kernel
theorem dL_acts_251 : decode cL_acts 251 = .ok (.ldc 21, 2) := by decide +kernel
theorem dL_acts_253 : decode cL_acts 253 = .ok (.if_icmp .ne 44, 3) := by decide +kernel
theorem dL_acts_256 : decode cL_acts 256 = .ok (.aload_n 0, 1) := by decide +kernel
theorem dL_acts_257 : decode cL_acts 257 = .ok (.iconst 5, 1) := by decide +kernel
theorem dL_acts_258 : decode cL_acts 258 = .ok (.sipush 1001, 3) := by decide +kernel
theorem dL_acts_261 : decode cL_acts 261 = .ok (.invokestatic 159, 3) := by decide +kernel
theorem dL_acts_264 : decode cL_acts 264 = .ok (.ldc 18, 2) := by decide +kernel
theorem dL_acts_266 : decode cL_acts 266 = .ok (.if_icmp .ne 31, 3) := by decide +kernel
theorem dL_acts_269 : decode cL_acts 269 = .ok (.aload_n 0, 1) := by decide +kernel
theorem dL_acts_270 : decode cL_acts 270 = .ok (.bipush 6, 2) := by decide +kernel
theorem dL_acts_272 : decode cL_acts 272 = .ok (.iconst 0, 1) := by decide +kernel
theorem dL_acts_273 : decode cL_acts 273 = .ok (.invokestatic 161, 3) := by decide +kernel
theorem dL_acts_276 : decode cL_acts 276 = .ok (.ldc 18, 2) := by decide +kernel
theorem dL_acts_278 : decode cL_acts 278 = .ok (.if_icmp .ne 19, 3) := by decide +kernel
theorem dL_acts_281 : decode cL_acts 281 = .ok (.aload_n 0, 1) := by decide +kernel
theorem dL_acts_282 : decode cL_acts 282 = .ok (.iconst 0, 1) := by decide +kernel
theorem dL_acts_283 : decode cL_acts 283 = .ok (.ldc 163, 2) := by decide +kernel
theorem dL_acts_285 : decode cL_acts 285 = .ok (.invokestatic 161, 3) := by decide +kernel
theorem dL_acts_288 : decode cL_acts 288 = .ok (.ldc 21, 2) := by decide +kernel
theorem dL_acts_290 : decode cL_acts 290 = .ok (.if_icmp .ne 7, 3) := by decide +kernel
theorem dL_acts_293 : decode cL_acts 293 = .ok (.iconst 1, 1) := by decide +kernel
theorem dL_acts_294 : decode cL_acts 294 = .ok (.goto 4, 3) := by decide +kernel
theorem dL_acts_297 : decode cL_acts 297 = .ok (.iconst 0, 1) := by decide +kernel
theorem dL_acts_298 : decode cL_acts 298 = .ok (.ireturn, 1) := by decide +kernel
theorem dL_acts_299 : decode cL_acts 299 = .ok (.iload 9, 2) := by decide +kernel
theorem dL_acts_301 : decode cL_acts 301 = .ok (.bipush 13, 2) := by decide +kernel
theorem dL_acts_303 : decode cL_acts 303 = .ok (.if_icmp .ge 236, 3) := by decide +kernel
theorem dL_acts_306 : decode cL_acts 306 = .ok (.aload 6, 2) := by decide +kernel
theorem dL_acts_308 : decode cL_acts 308 = .ok (.iconst 2, 1) := by decide +kernel
theorem dL_acts_309 : decode cL_acts 309 = .ok (.iaload, 1) := by decide +kernel
theorem dL_acts_310 : decode cL_acts 310 = .ok (.bipush 12, 2) := by decide +kernel
theorem dL_acts_312 : decode cL_acts 312 = .ok (.if_icmp .ge 227, 3) := by decide +kernel
theorem dL_acts_315 : decode cL_acts 315 = .ok (.iload 8, 2) := by decide +kernel
theorem dL_acts_317 : decode cL_acts 317 = .ok (.iconst 4, 1) := by decide +kernel
theorem dL_acts_318 : decode cL_acts 318 = .ok (.invokestatic 143, 3) := by decide +kernel
theorem dL_acts_321 : decode cL_acts 321 = .ok (.ifCond .ne 15, 3) := by decide +kernel
theorem dL_acts_324 : decode cL_acts 324 = .ok (.iload 8, 2) := by decide +kernel
theorem dL_acts_326 : decode cL_acts 326 = .ok (.iconst 4, 1) := by decide +kernel
theorem dL_acts_327 : decode cL_acts 327 = .ok (.ishr, 1) := by decide +kernel
theorem dL_acts_328 : decode cL_acts 328 = .ok (.bipush 12, 2) := by decide +kernel
theorem dL_acts_330 : decode cL_acts 330 = .ok (.invokestatic 143, 3) := by decide +kernel
theorem dL_acts_333 : decode cL_acts 333 = .ok (.goto 11, 3) := by decide +kernel
theorem dL_acts_336 : decode cL_acts 336 = .ok (.iload 8, 2) := by decide +kernel
theorem dL_acts_338 : decode cL_acts 338 = .ok (.iconst 4, 1) := by decide +kernel
theorem dL_acts_339 : decode cL_acts 339 = .ok (.ishr, 1) := by decide +kernel
theorem dL_acts_340 : decode cL_acts 340 = .ok (.iconst 3, 1) := by decide +kernel
theorem dL_acts_341 : decode cL_acts 341 = .ok (.invokestatic 143, 3) := by decide +kernel
theorem dL_acts_344 : decode cL_acts 344 = .ok (.istore 12, 2) := by decide +kernel
theorem dL_acts_346 : decode cL_acts 346 = .ok (.iconst 0, 1) := by decide +kernel
theorem dL_acts_347 : decode cL_acts 347 = .ok (.istore 13, 2) := by decide +kernel
theorem dL_acts_349 : decode cL_acts 349 = .ok (.iconst 0, 1) := by decide +kernel
theorem dL_acts_350 : decode cL_acts 350 = .ok (.istore 14, 2) := by decide +kernel
theorem dL_acts_352 : decode cL_acts 352 = .ok (.iload 14, 2) := by decide +kernel
theorem dL_acts_354 : decode cL_acts 354 = .ok (.aload 6, 2) := by decide +kernel
theorem dL_acts_356 : decode cL_acts 356 = .ok (.iconst 2, 1) := by decide +kernel
theorem dL_acts_357 : decode cL_acts 357 = .ok (.iaload, 1) := by decide +kernel
theorem dL_acts_358 : decode cL_acts 358 = .ok (.if_icmp .ge 39, 3) := by decide +kernel
theorem dL_acts_361 : decode cL_acts 361 = .ok (.iload 13, 2) := by decide +kernel
theorem dL_acts_363 : decode cL_acts 363 = .ok (.ifCond .ne 21, 3) := by decide +kernel
theorem dL_acts_366 : decode cL_acts 366 = .ok (.aload_n 3, 1) := by decide +kernel
theorem dL_acts_367 : decode cL_acts 367 = .ok (.iload 14, 2) := by decide +kernel
theorem dL_acts_369 : decode cL_acts 369 = .ok (.iaload, 1) := by decide +kernel
theorem dL_acts_370 : decode cL_acts 370 = .ok (.iload 12, 2) := by decide +kernel
theorem dL_acts_372 : decode cL_acts 372 = .ok (.if_icmp .ne 16, 3) := by decide +kernel
theorem dL_acts_375 : decode cL_acts 375 = .ok (.aload_n 0, 1) := by decide +kernel
theorem dL_acts_376 : decode cL_acts 376 = .ok (.iload 14, 2) := by decide +kernel
theorem dL_acts_378 : decode cL_acts 378 = .ok (.invokestatic 108, 3) := by decide +kernel
theorem dL_acts_381 : decode cL_acts 381 = .ok (.ifCond .ne 7, 3) := by decide +kernel
theorem dL_acts_384 : decode cL_acts 384 = .ok (.iconst 1, 1) := by decide +kernel
theorem dL_acts_385 : decode cL_acts 385 = .ok (.goto 4, 3) := by decide +kernel
theorem dL_acts_388 : decode cL_acts 388 = .ok (.iconst 0, 1) := by decide +kernel
theorem dL_acts_389 : decode cL_acts 389 = .ok (.istore 13, 2) := by decide +kernel
theorem dL_acts_391 : decode cL_acts 391 = .ok (.iinc 14 1, 3) := by decide +kernel
theorem dL_acts_394 : decode cL_acts 394 = .ok (.goto (-42), 3) := by decide +kernel
theorem dL_acts_397 : decode cL_acts 397 = .ok (.iload 13, 2) := by decide +kernel
theorem dL_acts_399 : decode cL_acts 399 = .ok (.ifCond .eq 8, 3) := by decide +kernel
theorem dL_acts_402 : decode cL_acts 402 = .ok (.ldc 31, 2) := by decide +kernel
theorem dL_acts_404 : decode cL_acts 404 = .ok (.goto 7, 3) := by decide +kernel
theorem dL_acts_407 : decode cL_acts 407 = .ok (.aload 6, 2) := by decide +kernel
theorem dL_acts_409 : decode cL_acts 409 = .ok (.iconst 2, 1) := by decide +kernel
theorem dL_acts_410 : decode cL_acts 410 = .ok (.iaload, 1) := by decide +kernel
theorem dL_acts_411 : decode cL_acts 411 = .ok (.istore 14, 2) := by decide +kernel
theorem dL_acts_413 : decode cL_acts 413 = .ok (.iload 13, 2) := by decide +kernel
theorem dL_acts_415 : decode cL_acts 415 = .ok (.ifCond .ne 47, 3) := by decide +kernel
theorem dL_acts_418 : decode cL_acts 418 = .ok (.aload_n 3, 1) := by decide +kernel
theorem dL_acts_419 : decode cL_acts 419 = .ok (.aload 6, 2) := by decide +kernel
theorem dL_acts_421 : decode cL_acts 421 = .ok (.iconst 2, 1) := by decide +kernel
theorem dL_acts_422 : decode cL_acts 422 = .ok (.iaload, 1) := by decide +kernel
theorem dL_acts_423 : decode cL_acts 423 = .ok (.iload 12, 2) := by decide +kernel
theorem dL_acts_425 : decode cL_acts 425 = .ok (.iastore, 1) := by decide +kernel
theorem dL_acts_426 : decode cL_acts 426 = .ok (.iconst 0, 1) := by decide +kernel
theorem dL_acts_427 : decode cL_acts 427 = .ok (.istore 15, 2) := by decide +kernel
theorem dL_acts_429 : decode cL_acts 429 = .ok (.iload 15, 2) := by decide +kernel
theorem dL_acts_431 : decode cL_acts 431 = .ok (.iconst 5, 1) := by decide +kernel
theorem dL_acts_432 : decode cL_acts 432 = .ok (.if_icmp .ge 22, 3) := by decide +kernel
theorem dL_acts_435 : decode cL_acts 435 = .ok (.aload 4, 2) := by decide +kernel
theorem dL_acts_437 : decode cL_acts 437 = .ok (.iconst 5, 1) := by decide +kernel
theorem dL_acts_438 : decode cL_acts 438 = .ok (.aload 6, 2) := by decide +kernel
theorem dL_acts_440 : decode cL_acts 440 = .ok (.iconst 2, 1) := by decide +kernel
theorem dL_acts_441 : decode cL_acts 441 = .ok (.iaload, 1) := by decide +kernel
theorem dL_acts_442 : decode cL_acts 442 = .ok (.imul, 1) := by decide +kernel
theorem dL_acts_443 : decode cL_acts 443 = .ok (.iload 15, 2) := by decide +kernel
theorem dL_acts_445 : decode cL_acts 445 = .ok (.iadd, 1) := by decide +kernel
theorem dL_acts_446 : decode cL_acts 446 = .ok (.iconst (-1), 1) := by decide +kernel
theorem dL_acts_447 : decode cL_acts 447 = .ok (.iastore, 1) := by decide +kernel
theorem dL_acts_448 : decode cL_acts 448 = .ok (.iinc 15 1, 3) := by decide +kernel
theorem dL_acts_451 : decode cL_acts 451 = .ok (.goto (-22), 3) := by decide +kernel
theorem dL_acts_454 : decode cL_acts 454 = .ok (.aload 6, 2) := by decide +kernel
theorem dL_acts_456 : decode cL_acts 456 = .ok (.iconst 2, 1) := by decide +kernel
theorem dL_acts_457 : decode cL_acts 457 = .ok (.dup2, 1) := by decide +kernel
theorem dL_acts_458 : decode cL_acts 458 = .ok (.iaload, 1) := by decide +kernel
theorem dL_acts_459 : decode cL_acts 459 = .ok (.iconst 1, 1) := by decide +kernel
theorem dL_acts_460 : decode cL_acts 460 = .ok (.iadd, 1) := by decide +kernel
theorem dL_acts_461 : decode cL_acts 461 = .ok (.iastore, 1) := by decide +kernel
theorem dL_acts_462 : decode cL_acts 462 = .ok (.aload_n 0, 1) := by decide +kernel
theorem dL_acts_463 : decode cL_acts 463 = .ok (.iload 12, 2) := by decide +kernel
theorem dL_acts_465 : decode cL_acts 465 = .ok (.invokestatic 164, 3) := by decide +kernel
theorem dL_acts_468 : decode cL_acts 468 = .ok (.iload 14, 2) := by decide +kernel
theorem dL_acts_470 : decode cL_acts 470 = .ok (.if_icmp .ne 67, 3) := by decide +kernel
theorem dL_acts_473 : decode cL_acts 473 = .ok (.aload_n 1, 1) := by decide +kernel
theorem dL_acts_474 : decode cL_acts 474 = .ok (.iload 12, 2) := by decide +kernel
theorem dL_acts_476 : decode cL_acts 476 = .ok (.invokestatic 164, 3) := by decide +kernel
theorem dL_acts_479 : decode cL_acts 479 = .ok (.iload 14, 2) := by decide +kernel
theorem dL_acts_481 : decode cL_acts 481 = .ok (.if_icmp .ne 56, 3) := by decide +kernel
theorem dL_acts_484 : decode cL_acts 484 = .ok (.aload_n 0, 1) := by decide +kernel
theorem dL_acts_485 : decode cL_acts 485 = .ok (.iload 12, 2) := by decide +kernel
theorem dL_acts_487 : decode cL_acts 487 = .ok (.invokestatic 164, 3) := by decide +kernel
theorem dL_acts_490 : decode cL_acts 490 = .ok (.ldc 31, 2) := by decide +kernel
theorem dL_acts_492 : decode cL_acts 492 = .ok (.if_icmp .ne 45, 3) := by decide +kernel
theorem dL_acts_495 : decode cL_acts 495 = .ok (.aload_n 0, 1) := by decide +kernel
theorem dL_acts_496 : decode cL_acts 496 = .ok (.bipush 12, 2) := by decide +kernel
theorem dL_acts_498 : decode cL_acts 498 = .ok (.invokestatic 164, 3) := by decide +kernel
theorem dL_acts_501 : decode cL_acts 501 = .ok (.ldc 18, 2) := by decide +kernel
theorem dL_acts_503 : decode cL_acts 503 = .ok (.if_icmp .ne 34, 3) := by decide +kernel
theorem dL_acts_506 : decode cL_acts 506 = .ok (.iload 14, 2) := by decide +kernel
theorem dL_acts_508 : decode cL_acts 508 = .ok (.ifCond .lt 25, 3) := by decide +kernel
theorem dL_acts_511 : decode cL_acts 511 = .ok (.aload_n 0, 1) := by decide +kernel
theorem dL_acts_512 : decode cL_acts 512 = .ok (.iload 14, 2) := by decide +kernel
theorem dL_acts_514 : decode cL_acts 514 = .ok (.invokestatic 105, 3) := by decide +kernel
theorem dL_acts_517 : decode cL_acts 517 = .ok (.aload 6, 2) := by decide +kernel
theorem dL_acts_519 : decode cL_acts 519 = .ok (.iconst 0, 1) := by decide +kernel
theorem dL_acts_520 : decode cL_acts 520 = .ok (.iaload, 1) := by decide +kernel
theorem dL_acts_521 : decode cL_acts 521 = .ok (.if_icmp .ne 16, 3) := by decide +kernel
theorem dL_acts_524 : decode cL_acts 524 = .ok (.aload_n 0, 1) := by decide +kernel
theorem dL_acts_525 : decode cL_acts 525 = .ok (.iload 14, 2) := by decide +kernel
theorem dL_acts_527 : decode cL_acts 527 = .ok (.invokestatic 108, 3) := by decide +kernel
theorem dL_acts_530 : decode cL_acts 530 = .ok (.ifCond .ne 7, 3) := by decide +kernel
theorem dL_acts_533 : decode cL_acts 533 = .ok (.iconst 1, 1) := by decide +kernel
theorem dL_acts_534 : decode cL_acts 534 = .ok (.goto 4, 3) := by decide +kernel
theorem dL_acts_537 : decode cL_acts 537 = .ok (.iconst 0, 1) := by decide +kernel
theorem dL_acts_538 : decode cL_acts 538 = .ok (.ireturn, 1) := by decide +kernel
theorem dL_acts_539 : decode cL_acts 539 = .ok (.aload 6, 2) := by decide +kernel
theorem dL_acts_541 : decode cL_acts 541 = .ok (.iconst 2, 1) := by decide +kernel
theorem dL_acts_542 : decode cL_acts 542 = .ok (.iaload, 1) := by decide +kernel
theorem dL_acts_543 : decode cL_acts 543 = .ok (.ifCond .ne 44, 3) := by decide +kernel
theorem dL_acts_546 : decode cL_acts 546 = .ok (.aload_n 0, 1) := by decide +kernel
theorem dL_acts_547 : decode cL_acts 547 = .ok (.iconst 0, 1) := by decide +kernel
theorem dL_acts_548 : decode cL_acts 548 = .ok (.iconst 0, 1) := by decide +kernel
theorem dL_acts_549 : decode cL_acts 549 = .ok (.iconst 0, 1) := by decide +kernel
theorem dL_acts_550 : decode cL_acts 550 = .ok (.iconst 0, 1) := by decide +kernel
theorem dL_acts_551 : decode cL_acts 551 = .ok (.invokestatic 166, 3) := by decide +kernel
theorem dL_acts_554 : decode cL_acts 554 = .ok (.ldc 18, 2) := by decide +kernel
theorem dL_acts_556 : decode cL_acts 556 = .ok (.if_icmp .ne 29, 3) := by decide +kernel
theorem dL_acts_559 : decode cL_acts 559 = .ok (.aload_n 0, 1) := by decide +kernel
theorem dL_acts_560 : decode cL_acts 560 = .ok (.iconst 0, 1) := by decide +kernel
theorem dL_acts_561 : decode cL_acts 561 = .ok (.invokestatic 169, 3) := by decide +kernel
theorem dL_acts_564 : decode cL_acts 564 = .ok (.ldc 18, 2) := by decide +kernel
theorem dL_acts_566 : decode cL_acts 566 = .ok (.if_icmp .ne 19, 3) := by decide +kernel
theorem dL_acts_569 : decode cL_acts 569 = .ok (.aload_n 0, 1) := by decide +kernel
theorem dL_acts_570 : decode cL_acts 570 = .ok (.iconst 0, 1) := by decide +kernel
theorem dL_acts_571 : decode cL_acts 571 = .ok (.iconst 0, 1) := by decide +kernel
theorem dL_acts_572 : decode cL_acts 572 = .ok (.iconst 0, 1) := by decide +kernel
theorem dL_acts_573 : decode cL_acts 573 = .ok (.invokestatic 131, 3) := by decide +kernel
theorem dL_acts_576 : decode cL_acts 576 = .ok (.ldc 18, 2) := by decide +kernel
theorem dL_acts_578 : decode cL_acts 578 = .ok (.if_icmp .ne 7, 3) := by decide +kernel
theorem dL_acts_581 : decode cL_acts 581 = .ok (.iconst 1, 1) := by decide +kernel
theorem dL_acts_582 : decode cL_acts 582 = .ok (.goto 4, 3) := by decide +kernel
theorem dL_acts_585 : decode cL_acts 585 = .ok (.iconst 0, 1) := by decide +kernel
theorem dL_acts_586 : decode cL_acts 586 = .ok (.ireturn, 1) := by decide +kernel
theorem dL_acts_587 : decode cL_acts 587 = .ok (.iload 7, 2) := by decide +kernel
theorem dL_acts_589 : decode cL_acts 589 = .ok (.bipush 8, 2) := by decide +kernel
theorem dL_acts_591 : decode cL_acts 591 = .ok (.ishr, 1) := by decide +kernel
theorem dL_acts_592 : decode cL_acts 592 = .ok (.iconst 3, 1) := by decide +kernel
theorem dL_acts_593 : decode cL_acts 593 = .ok (.invokestatic 143, 3) := by decide +kernel
theorem dL_acts_596 : decode cL_acts 596 = .ok (.ifCond .le 37, 3) := by decide +kernel
theorem dL_acts_599 : decode cL_acts 599 = .ok (.aload 6, 2) := by decide +kernel
theorem dL_acts_601 : decode cL_acts 601 = .ok (.iconst 2, 1) := by decide +kernel
theorem dL_acts_602 : decode cL_acts 602 = .ok (.iaload, 1) := by decide +kernel
theorem dL_acts_603 : decode cL_acts 603 = .ok (.iconst 1, 1) := by decide +kernel
theorem dL_acts_604 : decode cL_acts 604 = .ok (.isub, 1) := by decide +kernel
theorem dL_acts_605 : decode cL_acts 605 = .ok (.iload 7, 2) := by decide +kernel
theorem dL_acts_607 : decode cL_acts 607 = .ok (.bipush 10, 2) := by decide +kernel
theorem dL_acts_609 : decode cL_acts 609 = .ok (.ishr, 1) := by decide +kernel
theorem dL_acts_610 : decode cL_acts 610 = .ok (.aload 6, 2) := by decide +kernel
theorem dL_acts_612 : decode cL_acts 612 = .ok (.iconst 2, 1) := by decide +kernel
theorem dL_acts_613 : decode cL_acts 613 = .ok (.iaload, 1) := by decide +kernel
theorem dL_acts_614 : decode cL_acts 614 = .ok (.iconst 3, 1) := by decide +kernel
theorem dL_acts_615 : decode cL_acts 615 = .ok (.if_icmp .ge 10, 3) := by decide +kernel
theorem dL_acts_618 : decode cL_acts 618 = .ok (.aload 6, 2) := by decide +kernel
theorem dL_acts_620 : decode cL_acts 620 = .ok (.iconst 2, 1) := by decide +kernel
theorem dL_acts_621 : decode cL_acts 621 = .ok (.iaload, 1) := by decide +kernel
theorem dL_acts_622 : decode cL_acts 622 = .ok (.goto 4, 3) := by decide +kernel
theorem dL_acts_625 : decode cL_acts 625 = .ok (.iconst 3, 1) := by decide +kernel
theorem dL_acts_626 : decode cL_acts 626 = .ok (.invokestatic 143, 3) := by decide +kernel
theorem dL_acts_629 : decode cL_acts 629 = .ok (.isub, 1) := by decide +kernel
theorem dL_acts_630 : decode cL_acts 630 = .ok (.goto 15, 3) := by decide +kernel
theorem dL_acts_633 : decode cL_acts 633 = .ok (.iload 7, 2) := by decide +kernel
theorem dL_acts_635 : decode cL_acts 635 = .ok (.bipush 10, 2) := by decide +kernel
theorem dL_acts_637 : decode cL_acts 637 = .ok (.ishr, 1) := by decide +kernel
theorem dL_acts_638 : decode cL_acts 638 = .ok (.aload 6, 2) := by decide +kernel
theorem dL_acts_640 : decode cL_acts 640 = .ok (.iconst 2, 1) := by decide +kernel
theorem dL_acts_641 : decode cL_acts 641 = .ok (.iaload, 1) := by decide +kernel
theorem dL_acts_642 : decode cL_acts 642 = .ok (.invokestatic 143, 3) := by decide +kernel
theorem dL_acts_645 : decode cL_acts 645 = .ok (.istore 12, 2) := by decide +kernel
theorem dL_acts_647 : decode cL_acts 647 = .ok (.iload 9, 2) := by decide +kernel
theorem dL_acts_649 : decode cL_acts 649 = .ok (.bipush 19, 2) := by decide +kernel
theorem dL_acts_651 : decode cL_acts 651 = .ok (.if_icmp .ge 370, 3) := by decide +kernel
theorem dL_acts_654 : decode cL_acts 654 = .ok (.aload_n 0, 1) := by decide +kernel
theorem dL_acts_655 : decode cL_acts 655 = .ok (.iload 12, 2) := by decide +kernel
theorem dL_acts_657 : decode cL_acts 657 = .ok (.iload 10, 2) := by decide +kernel
theorem dL_acts_659 : decode cL_acts 659 = .ok (.invokestatic 123, 3) := by decide +kernel
theorem dL_acts_662 : decode cL_acts 662 = .ok (.istore 13, 2) := by decide +kernel
theorem dL_acts_664 : decode cL_acts 664 = .ok (.iload 8, 2) := by decide +kernel
theorem dL_acts_666 : decode cL_acts 666 = .ok (.bipush 6, 2) := by decide +kernel
theorem dL_acts_668 : decode cL_acts 668 = .ok (.ishr, 1) := by decide +kernel
theorem dL_acts_669 : decode cL_acts 669 = .ok (.iconst 3, 1) := by decide +kernel
theorem dL_acts_670 : decode cL_acts 670 = .ok (.invokestatic 143, 3) := by decide +kernel
theorem dL_acts_673 : decode cL_acts 673 = .ok (.ifCond .le 29, 3) := by decide +kernel
theorem dL_acts_676 : decode cL_acts 676 = .ok (.aload_n 0, 1) := by decide +kernel
theorem dL_acts_677 : decode cL_acts 677 = .ok (.aload_n 3, 1) := by decide +kernel
theorem dL_acts_678 : decode cL_acts 678 = .ok (.iload 12, 2) := by decide +kernel
theorem dL_acts_680 : decode cL_acts 680 = .ok (.iaload, 1) := by decide +kernel
theorem dL_acts_681 : decode cL_acts 681 = .ok (.iload 10, 2) := by decide +kernel
theorem dL_acts_683 : decode cL_acts 683 = .ok (.invokestatic 95, 3) := by decide +kernel
theorem dL_acts_686 : decode cL_acts 686 = .ok (.invokestatic 149, 3) := by decide +kernel
theorem dL_acts_689 : decode cL_acts 689 = .ok (.iload 8, 2) := by decide +kernel
theorem dL_acts_691 : decode cL_acts 691 = .ok (.bipush 8, 2) := by decide +kernel
theorem dL_acts_693 : decode cL_acts 693 = .ok (.ishr, 1) := by decide +kernel
theorem dL_acts_694 : decode cL_acts 694 = .ok (.iconst 3, 1) := by decide +kernel
theorem dL_acts_695 : decode cL_acts 695 = .ok (.invokestatic 143, 3) := by decide +kernel
theorem dL_acts_698 : decode cL_acts 698 = .ok (.iadd, 1) := by decide +kernel
theorem dL_acts_699 : decode cL_acts 699 = .ok (.goto 13, 3) := by decide +kernel
theorem dL_acts_702 : decode cL_acts 702 = .ok (.iload 8, 2) := by decide +kernel
theorem dL_acts_704 : decode cL_acts 704 = .ok (.bipush 8, 2) := by decide +kernel
theorem dL_acts_706 : decode cL_acts 706 = .ok (.ishr, 1) := by decide +kernel
theorem dL_acts_707 : decode cL_acts 707 = .ok (.ldc 171, 2) := by decide +kernel
theorem dL_acts_709 : decode cL_acts 709 = .ok (.invokestatic 143, 3) := by decide +kernel
theorem dL_acts_712 : decode cL_acts 712 = .ok (.istore 14, 2) := by decide +kernel
theorem dL_acts_714 : decode cL_acts 714 = .ok (.iload 14, 2) := by decide +kernel
theorem dL_acts_716 : decode cL_acts 716 = .ok (.ldc 172, 2) := by decide +kernel
theorem dL_acts_718 : decode cL_acts 718 = .ok (.if_icmp .le 8, 3) := by decide +kernel
theorem dL_acts_721 : decode cL_acts 721 = .ok (.ldc 172, 2) := by decide +kernel
theorem dL_acts_723 : decode cL_acts 723 = .ok (.goto 5, 3) := by decide +kernel
theorem dL_acts_726 : decode cL_acts 726 = .ok (.iload 14, 2) := by decide +kernel
theorem dL_acts_728 : decode cL_acts 728 = .ok (.istore 14, 2) := by decide +kernel
theorem dL_acts_730 : decode cL_acts 730 = .ok (.aload_n 0, 1) := by decide +kernel
theorem dL_acts_731 : decode cL_acts 731 = .ok (.iload 12, 2) := by decide +kernel
theorem dL_acts_733 : decode cL_acts 733 = .ok (.iload 11, 2) := by decide +kernel
theorem dL_acts_735 : decode cL_acts 735 = .ok (.iload 10, 2) := by decide +kernel
theorem dL_acts_737 : decode cL_acts 737 = .ok (.iload 14, 2) := by decide +kernel
theorem dL_acts_739 : decode cL_acts 739 = .ok (.invokestatic 166, 3) := by decide +kernel
theorem dL_acts_742 : decode cL_acts 742 = .ok (.istore 15, 2) := by decide +kernel
theorem dL_acts_744 : decode cL_acts 744 = .ok (.aload_n 1, 1) := by decide +kernel
theorem dL_acts_745 : decode cL_acts 745 = .ok (.iload 12, 2) := by decide +kernel
theorem dL_acts_747 : decode cL_acts 747 = .ok (.iload 11, 2) := by decide +kernel
theorem dL_acts_749 : decode cL_acts 749 = .ok (.iload 10, 2) := by decide +kernel
theorem dL_acts_751 : decode cL_acts 751 = .ok (.iload 14, 2) := by decide +kernel
theorem dL_acts_753 : decode cL_acts 753 = .ok (.invokestatic 166, 3) := by decide +kernel
theorem dL_acts_756 : decode cL_acts 756 = .ok (.iload 15, 2) := by decide +kernel
theorem dL_acts_758 : decode cL_acts 758 = .ok (.if_icmp .ne 78, 3) := by decide +kernel
theorem dL_acts_761 : decode cL_acts 761 = .ok (.aload_n 0, 1) := by decide +kernel
theorem dL_acts_762 : decode cL_acts 762 = .ok (.iload 12, 2) := by decide +kernel
theorem dL_acts_764 : decode cL_acts 764 = .ok (.invokestatic 108, 3) := by decide +kernel
theorem dL_acts_767 : decode cL_acts 767 = .ok (.iconst 1, 1) := by decide +kernel
theorem dL_acts_768 : decode cL_acts 768 = .ok (.if_icmp .eq 16, 3) := by decide +kernel
theorem dL_acts_771 : decode cL_acts 771 = .ok (.aload 4, 2) := by decide +kernel
theorem dL_acts_773 : decode cL_acts 773 = .ok (.iconst 5, 1) := by decide +kernel
theorem dL_acts_774 : decode cL_acts 774 = .ok (.iload 12, 2) := by decide +kernel
theorem dL_acts_776 : decode cL_acts 776 = .ok (.imul, 1) := by decide +kernel
theorem dL_acts_777 : decode cL_acts 777 = .ok (.iload 10, 2) := by decide +kernel
theorem dL_acts_779 : decode cL_acts 779 = .ok (.iadd, 1) := by decide +kernel
theorem dL_acts_780 : decode cL_acts 780 = .ok (.iaload, 1) := by decide +kernel
theorem dL_acts_781 : decode cL_acts 781 = .ok (.ifCond .lt 13, 3) := by decide +kernel
theorem dL_acts_784 : decode cL_acts 784 = .ok (.iload 15, 2) := by decide +kernel
theorem dL_acts_786 : decode cL_acts 786 = .ok (.ldc 31, 2) := by decide +kernel
theorem dL_acts_788 : decode cL_acts 788 = .ok (.if_icmp .ne 48, 3) := by decide +kernel
theorem dL_acts_791 : decode cL_acts 791 = .ok (.goto 41, 3) := by decide +kernel
theorem dL_acts_794 : decode cL_acts 794 = .ok (.iload 15, 2) := by decide +kernel
theorem dL_acts_796 : decode cL_acts 796 = .ok (.ldc 31, 2) := by decide +kernel
theorem dL_acts_798 : decode cL_acts 798 = .ok (.if_icmp .ne 8, 3) := by decide +kernel
theorem dL_acts_801 : decode cL_acts 801 = .ok (.iload 13, 2) := by decide +kernel
theorem dL_acts_803 : decode cL_acts 803 = .ok (.ifCond .gt 29, 3) := by decide +kernel
theorem dL_acts_806 : decode cL_acts 806 = .ok (.iload 15, 2) := by decide +kernel
theorem dL_acts_808 : decode cL_acts 808 = .ok (.ifCond .eq 9, 3) := by decide +kernel
theorem dL_acts_811 : decode cL_acts 811 = .ok (.iload 15, 2) := by decide +kernel
theorem dL_acts_813 : decode cL_acts 813 = .ok (.iconst 1, 1) := by decide +kernel
theorem dL_acts_814 : decode cL_acts 814 = .ok (.if_icmp .ne 22, 3) := by decide +kernel
theorem dL_acts_817 : decode cL_acts 817 = .ok (.aload_n 0, 1) := by decide +kernel
theorem dL_acts_818 : decode cL_acts 818 = .ok (.iload 12, 2) := by decide +kernel
theorem dL_acts_820 : decode cL_acts 820 = .ok (.iload 10, 2) := by decide +kernel
theorem dL_acts_822 : decode cL_acts 822 = .ok (.invokestatic 123, 3) := by decide +kernel
theorem dL_acts_825 : decode cL_acts 825 = .ok (.iload 13, 2) := by decide +kernel
theorem dL_acts_827 : decode cL_acts 827 = .ok (.iconst 1, 1) := by decide +kernel
theorem dL_acts_828 : decode cL_acts 828 = .ok (.iadd, 1) := by decide +kernel
theorem dL_acts_829 : decode cL_acts 829 = .ok (.if_icmp .ne 7, 3) := by decide +kernel
theorem dL_acts_832 : decode cL_acts 832 = .ok (.iconst 1, 1) := by decide +kernel
theorem dL_acts_833 : decode cL_acts 833 = .ok (.goto 4, 3) := by decide +kernel
theorem dL_acts_836 : decode cL_acts 836 = .ok (.iconst 0, 1) := by decide +kernel
theorem dL_acts_837 : decode cL_acts 837 = .ok (.istore 16, 2) := by decide +kernel
theorem dL_acts_839 : decode cL_acts 839 = .ok (.iload 16, 2) := by decide +kernel
theorem dL_acts_841 : decode cL_acts 841 = .ok (.ifCond .eq 37, 3) := by decide +kernel
theorem dL_acts_844 : decode cL_acts 844 = .ok (.iload 15, 2) := by decide +kernel
theorem dL_acts_846 : decode cL_acts 846 = .ok (.ifCond .lt 28, 3) := by decide +kernel
theorem dL_acts_849 : decode cL_acts 849 = .ok (.iload 13, 2) := by decide +kernel
theorem dL_acts_851 : decode cL_acts 851 = .ok (.ifCond .ne 11, 3) := by decide +kernel
theorem dL_acts_854 : decode cL_acts 854 = .ok (.iload 15, 2) := by decide +kernel
theorem dL_acts_856 : decode cL_acts 856 = .ok (.ifCond .ne 22, 3) := by decide +kernel
theorem dL_acts_859 : decode cL_acts 859 = .ok (.goto 15, 3) := by decide +kernel
theorem dL_acts_862 : decode cL_acts 862 = .ok (.iload 13, 2) := by decide +kernel
theorem dL_acts_864 : decode cL_acts 864 = .ok (.iconst 1, 1) := by decide +kernel
theorem dL_acts_865 : decode cL_acts 865 = .ok (.if_icmp .eq 9, 3) := by decide +kernel
theorem dL_acts_868 : decode cL_acts 868 = .ok (.iload 15, 2) := by decide +kernel
theorem dL_acts_870 : decode cL_acts 870 = .ok (.iconst 1, 1) := by decide +kernel
theorem dL_acts_871 : decode cL_acts 871 = .ok (.if_icmp .ne 7, 3) := by decide +kernel
theorem dL_acts_874 : decode cL_acts 874 = .ok (.iconst 1, 1) := by decide +kernel
theorem dL_acts_875 : decode cL_acts 875 = .ok (.goto 4, 3) := by decide +kernel
theorem dL_acts_878 : decode cL_acts 878 = .ok (.iconst 0, 1) := by decide +kernel
theorem dL_acts_879 : decode cL_acts 879 = .ok (.istore 16, 2) := by decide +kernel
theorem dL_acts_881 : decode cL_acts 881 = .ok (.aload 4, 2) := by decide +kernel
theorem dL_acts_883 : decode cL_acts 883 = .ok (.iconst 5, 1) := by decide +kernel
theorem dL_acts_884 : decode cL_acts 884 = .ok (.iload 12, 2) := by decide +kernel
theorem dL_acts_886 : decode cL_acts 886 = .ok (.imul, 1) := by decide +kernel
theorem dL_acts_887 : decode cL_acts 887 = .ok (.iload 10, 2) := by decide +kernel
theorem dL_acts_889 : decode cL_acts 889 = .ok (.iadd, 1) := by decide +kernel
theorem dL_acts_890 : decode cL_acts 890 = .ok (.iload 15, 2) := by decide +kernel
theorem dL_acts_892 : decode cL_acts 892 = .ok (.iconst 1, 1) := by decide +kernel
theorem dL_acts_893 : decode cL_acts 893 = .ok (.if_icmp .ne 14, 3) := by decide +kernel
theorem dL_acts_896 : decode cL_acts 896 = .ok (.aload_n 0, 1) := by decide +kernel
theorem dL_acts_897 : decode cL_acts 897 = .ok (.iload 12, 2) := by decide +kernel
theorem dL_acts_899 : decode cL_acts 899 = .ok (.iload 10, 2) := by decide +kernel
theorem dL_acts_901 : decode cL_acts 901 = .ok (.invokestatic 121, 3) := by decide +kernel
theorem dL_acts_904 : decode cL_acts 904 = .ok (.goto 13, 3) := by decide +kernel
theorem dL_acts_907 : decode cL_acts 907 = .ok (.aload 4, 2) := by decide +kernel
theorem dL_acts_909 : decode cL_acts 909 = .ok (.iconst 5, 1) := by decide +kernel
theorem dL_acts_910 : decode cL_acts 910 = .ok (.iload 12, 2) := by decide +kernel
theorem dL_acts_912 : decode cL_acts 912 = .ok (.imul, 1) := by decide +kernel
theorem dL_acts_913 : decode cL_acts 913 = .ok (.iload 10, 2) := by decide +kernel
theorem dL_acts_915 : decode cL_acts 915 = .ok (.iadd, 1) := by decide +kernel
theorem dL_acts_916 : decode cL_acts 916 = .ok (.iaload, 1) := by decide +kernel
theorem dL_acts_917 : decode cL_acts 917 = .ok (.iastore, 1) := by decide +kernel
theorem dL_acts_918 : decode cL_acts 918 = .ok (.iload 16, 2) := by decide +kernel
theorem dL_acts_920 : decode cL_acts 920 = .ok (.ifCond .eq 54, 3) := by decide +kernel
theorem dL_acts_923 : decode cL_acts 923 = .ok (.iload 15, 2) := by decide +kernel
theorem dL_acts_925 : decode cL_acts 925 = .ok (.iconst 1, 1) := by decide +kernel
theorem dL_acts_926 : decode cL_acts 926 = .ok (.if_icmp .ne 22, 3) := by decide +kernel
theorem dL_acts_929 : decode cL_acts 929 = .ok (.iload 13, 2) := by decide +kernel
theorem dL_acts_931 : decode cL_acts 931 = .ok (.iconst 2, 1) := by decide +kernel
theorem dL_acts_932 : decode cL_acts 932 = .ok (.if_icmp .eq 16, 3) := by decide +kernel
theorem dL_acts_935 : decode cL_acts 935 = .ok (.aload_n 0, 1) := by decide +kernel
theorem dL_acts_936 : decode cL_acts 936 = .ok (.iload 12, 2) := by decide +kernel
theorem dL_acts_938 : decode cL_acts 938 = .ok (.iload 10, 2) := by decide +kernel
theorem dL_acts_940 : decode cL_acts 940 = .ok (.invokestatic 121, 3) := by decide +kernel
theorem dL_acts_943 : decode cL_acts 943 = .ok (.iload 14, 2) := by decide +kernel
theorem dL_acts_945 : decode cL_acts 945 = .ok (.if_icmp .ne 29, 3) := by decide +kernel
theorem dL_acts_948 : decode cL_acts 948 = .ok (.iload 15, 2) := by decide +kernel
theorem dL_acts_950 : decode cL_acts 950 = .ok (.ifCond .lt 20, 3) := by decide +kernel
theorem dL_acts_953 : decode cL_acts 953 = .ok (.aload_n 0, 1) := by decide +kernel
theorem dL_acts_954 : decode cL_acts 954 = .ok (.iload 12, 2) := by decide +kernel
theorem dL_acts_956 : decode cL_acts 956 = .ok (.iload 11, 2) := by decide +kernel
theorem dL_acts_958 : decode cL_acts 958 = .ok (.iload 10, 2) := by decide +kernel
theorem dL_acts_960 : decode cL_acts 960 = .ok (.iload 14, 2) := by decide +kernel
theorem dL_acts_962 : decode cL_acts 962 = .ok (.invokestatic 166, 3) := by decide +kernel
theorem dL_acts_965 : decode cL_acts 965 = .ok (.ldc 31, 2) := by decide +kernel
theorem dL_acts_967 : decode cL_acts 967 = .ok (.if_icmp .ne 7, 3) := by decide +kernel
theorem dL_acts_970 : decode cL_acts 970 = .ok (.iconst 1, 1) := by decide +kernel
theorem dL_acts_971 : decode cL_acts 971 = .ok (.goto 4, 3) := by decide +kernel
theorem dL_acts_974 : decode cL_acts 974 = .ok (.iconst 0, 1) := by decide +kernel
theorem dL_acts_975 : decode cL_acts 975 = .ok (.istore 16, 2) := by decide +kernel
theorem dL_acts_977 : decode cL_acts 977 = .ok (.iload 16, 2) := by decide +kernel
theorem dL_acts_979 : decode cL_acts 979 = .ok (.ifCond .eq 40, 3) := by decide +kernel
theorem dL_acts_982 : decode cL_acts 982 = .ok (.aload_n 0, 1) := by decide +kernel
theorem dL_acts_983 : decode cL_acts 983 = .ok (.iload 12, 2) := by decide +kernel
theorem dL_acts_985 : decode cL_acts 985 = .ok (.iload 11, 2) := by decide +kernel
theorem dL_acts_987 : decode cL_acts 987 = .ok (.iload 10, 2) := by decide +kernel
theorem dL_acts_989 : decode cL_acts 989 = .ok (.ldc 171, 2) := by decide +kernel
theorem dL_acts_991 : decode cL_acts 991 = .ok (.invokestatic 166, 3) := by decide +kernel
theorem dL_acts_994 : decode cL_acts 994 = .ok (.ldc 21, 2) := by decide +kernel
theorem dL_acts_996 : decode cL_acts 996 = .ok (.if_icmp .ne 23, 3) := by decide +kernel
theorem dL_acts_999 : decode cL_acts 999 = .ok (.aload_n 0, 1) := by decide +kernel
theorem dL_acts_1000 : decode cL_acts 1000 = .ok (.iload 12, 2) := by decide +kernel
theorem dL_acts_1002 : decode cL_acts 1002 = .ok (.bipush 6, 2) := by decide +kernel
theorem dL_acts_1004 : decode cL_acts 1004 = .ok (.iload 10, 2) := by decide +kernel
theorem dL_acts_1006 : decode cL_acts 1006 = .ok (.iconst (-1), 1) := by decide +kernel
theorem dL_acts_1007 : decode cL_acts 1007 = .ok (.invokestatic 166, 3) := by decide +kernel
theorem dL_acts_1010 : decode cL_acts 1010 = .ok (.ldc 18, 2) := by decide +kernel
theorem dL_acts_1012 : decode cL_acts 1012 = .ok (.if_icmp .ne 7, 3) := by decide +kernel
theorem dL_acts_1015 : decode cL_acts 1015 = .ok (.iconst 1, 1) := by decide +kernel
theorem dL_acts_1016 : decode cL_acts 1016 = .ok (.goto 4, 3) := by decide +kernel
theorem dL_acts_1019 : decode cL_acts 1019 = .ok (.iconst 0, 1) := by decide +kernel
theorem dL_acts_1020 : decode cL_acts 1020 = .ok (.ireturn, 1) := by decide +kernel
theorem dL_acts_1021 : decode cL_acts 1021 = .ok (.iload 9, 2) := by decide +kernel
theorem dL_acts_1023 : decode cL_acts 1023 = .ok (.bipush 21, 2) := by decide +kernel
theorem dL_acts_1025 : decode cL_acts 1025 = .ok (.if_icmp .ge 166, 3) := by decide +kernel
theorem dL_acts_1028 : decode cL_acts 1028 = .ok (.aload_n 0, 1) := by decide +kernel
theorem dL_acts_1029 : decode cL_acts 1029 = .ok (.iload 12, 2) := by decide +kernel
theorem dL_acts_1031 : decode cL_acts 1031 = .ok (.invokestatic 108, 3) := by decide +kernel
theorem dL_acts_1034 : decode cL_acts 1034 = .ok (.ifCond .ne 7, 3) := by decide +kernel
theorem dL_acts_1037 : decode cL_acts 1037 = .ok (.iconst 1, 1) := by decide +kernel
theorem dL_acts_1038 : decode cL_acts 1038 = .ok (.goto 4, 3) := by decide +kernel
theorem dL_acts_1041 : decode cL_acts 1041 = .ok (.iconst 0, 1) := by decide +kernel
theorem dL_acts_1042 : decode cL_acts 1042 = .ok (.istore 13, 2) := by decide +kernel
theorem dL_acts_1044 : decode cL_acts 1044 = .ok (.iconst 0, 1) := by decide +kernel
theorem dL_acts_1045 : decode cL_acts 1045 = .ok (.istore 14, 2) := by decide +kernel
theorem dL_acts_1047 : decode cL_acts 1047 = .ok (.iconst 0, 1) := by decide +kernel
theorem dL_acts_1048 : decode cL_acts 1048 = .ok (.istore 15, 2) := by decide +kernel
theorem dL_acts_1050 : decode cL_acts 1050 = .ok (.iload 15, 2) := by decide +kernel
theorem dL_acts_1052 : decode cL_acts 1052 = .ok (.iconst 5, 1) := by decide +kernel
theorem dL_acts_1053 : decode cL_acts 1053 = .ok (.if_icmp .ge 68, 3) := by decide +kernel
theorem dL_acts_1056 : decode cL_acts 1056 = .ok (.iload 13, 2) := by decide +kernel
theorem dL_acts_1058 : decode cL_acts 1058 = .ok (.ifCond .eq 31, 3) := by decide +kernel
theorem dL_acts_1061 : decode cL_acts 1061 = .ok (.aload_n 0, 1) := by decide +kernel
theorem dL_acts_1062 : decode cL_acts 1062 = .ok (.iload 12, 2) := by decide +kernel
theorem dL_acts_1064 : decode cL_acts 1064 = .ok (.iload 15, 2) := by decide +kernel
theorem dL_acts_1066 : decode cL_acts 1066 = .ok (.invokestatic 123, 3) := by decide +kernel
theorem dL_acts_1069 : decode cL_acts 1069 = .ok (.ifCond .eq 16, 3) := by decide +kernel
theorem dL_acts_1072 : decode cL_acts 1072 = .ok (.aload 4, 2) := by decide +kernel
theorem dL_acts_1074 : decode cL_acts 1074 = .ok (.iconst 5, 1) := by decide +kernel
theorem dL_acts_1075 : decode cL_acts 1075 = .ok (.iload 12, 2) := by decide +kernel
theorem dL_acts_1077 : decode cL_acts 1077 = .ok (.imul, 1) := by decide +kernel
theorem dL_acts_1078 : decode cL_acts 1078 = .ok (.iload 15, 2) := by decide +kernel
theorem dL_acts_1080 : decode cL_acts 1080 = .ok (.iadd, 1) := by decide +kernel
theorem dL_acts_1081 : decode cL_acts 1081 = .ok (.iaload, 1) := by decide +kernel
theorem dL_acts_1082 : decode cL_acts 1082 = .ok (.ifCond .lt 7, 3) := by decide +kernel
theorem dL_acts_1085 : decode cL_acts 1085 = .ok (.iconst 1, 1) := by decide +kernel
theorem dL_acts_1086 : decode cL_acts 1086 = .ok (.goto 4, 3) := by decide +kernel
theorem dL_acts_1089 : decode cL_acts 1089 = .ok (.iconst 0, 1) := by decide +kernel
theorem dL_acts_1090 : decode cL_acts 1090 = .ok (.istore 13, 2) := by decide +kernel
theorem dL_acts_1092 : decode cL_acts 1092 = .ok (.iload 14, 2) := by decide +kernel
theorem dL_acts_1094 : decode cL_acts 1094 = .ok (.aload 4, 2) := by decide +kernel
theorem dL_acts_1096 : decode cL_acts 1096 = .ok (.iconst 5, 1) := by decide +kernel
theorem dL_acts_1097 : decode cL_acts 1097 = .ok (.iload 12, 2) := by decide +kernel
theorem dL_acts_1099 : decode cL_acts 1099 = .ok (.imul, 1) := by decide +kernel
theorem dL_acts_1100 : decode cL_acts 1100 = .ok (.iload 15, 2) := by decide +kernel
theorem dL_acts_1102 : decode cL_acts 1102 = .ok (.iadd, 1) := by decide +kernel
theorem dL_acts_1103 : decode cL_acts 1103 = .ok (.iaload, 1) := by decide +kernel
theorem dL_acts_1104 : decode cL_acts 1104 = .ok (.ifCond .lt 7, 3) := by decide +kernel
theorem dL_acts_1107 : decode cL_acts 1107 = .ok (.iconst 1, 1) := by decide +kernel
theorem dL_acts_1108 : decode cL_acts 1108 = .ok (.goto 4, 3) := by decide +kernel
theorem dL_acts_1111 : decode cL_acts 1111 = .ok (.iconst 0, 1) := by decide +kernel
theorem dL_acts_1112 : decode cL_acts 1112 = .ok (.iadd, 1) := by decide +kernel
theorem dL_acts_1113 : decode cL_acts 1113 = .ok (.istore 14, 2) := by decide +kernel
theorem dL_acts_1115 : decode cL_acts 1115 = .ok (.iinc 15 1, 3) := by decide +kernel
theorem dL_acts_1118 : decode cL_acts 1118 = .ok (.goto (-68), 3) := by decide +kernel
theorem dL_acts_1121 : decode cL_acts 1121 = .ok (.iload 13, 2) := by decide +kernel
theorem dL_acts_1123 : decode cL_acts 1123 = .ok (.ifCond .eq 8, 3) := by decide +kernel
theorem dL_acts_1126 : decode cL_acts 1126 = .ok (.iload 14, 2) := by decide +kernel
theorem dL_acts_1128 : decode cL_acts 1128 = .ok (.goto 5, 3) := by decide +kernel
theorem dL_acts_1131 : decode cL_acts 1131 = .ok (.ldc 31, 2) := by decide +kernel
theorem dL_acts_1133 : decode cL_acts 1133 = .ok (.istore 15, 2) := by decide +kernel
theorem dL_acts_1135 : decode cL_acts 1135 = .ok (.aload_n 0, 1) := by decide +kernel
theorem dL_acts_1136 : decode cL_acts 1136 = .ok (.iload 12, 2) := by decide +kernel
theorem dL_acts_1138 : decode cL_acts 1138 = .ok (.invokestatic 169, 3) := by decide +kernel
theorem dL_acts_1141 : decode cL_acts 1141 = .ok (.iload 15, 2) := by decide +kernel
theorem dL_acts_1143 : decode cL_acts 1143 = .ok (.if_icmp .ne 46, 3) := by decide +kernel
theorem dL_acts_1146 : decode cL_acts 1146 = .ok (.aload_n 1, 1) := by decide +kernel
theorem dL_acts_1147 : decode cL_acts 1147 = .ok (.iload 12, 2) := by decide +kernel
theorem dL_acts_1149 : decode cL_acts 1149 = .ok (.invokestatic 169, 3) := by decide +kernel
theorem dL_acts_1152 : decode cL_acts 1152 = .ok (.iload 15, 2) := by decide +kernel
theorem dL_acts_1154 : decode cL_acts 1154 = .ok (.if_icmp .ne 35, 3) := by decide +kernel
theorem dL_acts_1157 : decode cL_acts 1157 = .ok (.aload_n 0, 1) := by decide +kernel
theorem dL_acts_1158 : decode cL_acts 1158 = .ok (.aload 6, 2) := by decide +kernel
theorem dL_acts_1160 : decode cL_acts 1160 = .ok (.iconst 2, 1) := by decide +kernel
theorem dL_acts_1161 : decode cL_acts 1161 = .ok (.iaload, 1) := by decide +kernel
theorem dL_acts_1162 : decode cL_acts 1162 = .ok (.invokestatic 169, 3) := by decide +kernel
theorem dL_acts_1165 : decode cL_acts 1165 = .ok (.ldc 18, 2) := by decide +kernel
theorem dL_acts_1167 : decode cL_acts 1167 = .ok (.if_icmp .ne 22, 3) := by decide +kernel
theorem dL_acts_1170 : decode cL_acts 1170 = .ok (.iload 15, 2) := by decide +kernel
theorem dL_acts_1172 : decode cL_acts 1172 = .ok (.ifCond .lt 13, 3) := by decide +kernel
theorem dL_acts_1175 : decode cL_acts 1175 = .ok (.aload_n 0, 1) := by decide +kernel
theorem dL_acts_1176 : decode cL_acts 1176 = .ok (.iload 12, 2) := by decide +kernel
theorem dL_acts_1178 : decode cL_acts 1178 = .ok (.invokestatic 108, 3) := by decide +kernel
theorem dL_acts_1181 : decode cL_acts 1181 = .ok (.iconst 1, 1) := by decide +kernel
theorem dL_acts_1182 : decode cL_acts 1182 = .ok (.if_icmp .ne 7, 3) := by decide +kernel
theorem dL_acts_1185 : decode cL_acts 1185 = .ok (.iconst 1, 1) := by decide +kernel
theorem dL_acts_1186 : decode cL_acts 1186 = .ok (.goto 4, 3) := by decide +kernel
theorem dL_acts_1189 : decode cL_acts 1189 = .ok (.iconst 0, 1) := by decide +kernel
theorem dL_acts_1190 : decode cL_acts 1190 = .ok (.ireturn, 1) := by decide +kernel
theorem dL_acts_1191 : decode cL_acts 1191 = .ok (.iload 9, 2) := by decide +kernel
theorem dL_acts_1193 : decode cL_acts 1193 = .ok (.bipush 24, 2) := by decide +kernel
theorem dL_acts_1195 : decode cL_acts 1195 = .ok (.if_icmp .ge 23, 3) := by decide +kernel
theorem dL_acts_1198 : decode cL_acts 1198 = .ok (.aload_n 0, 1) := by decide +kernel
theorem dL_acts_1199 : decode cL_acts 1199 = .ok (.aload_n 1, 1) := by decide +kernel
theorem dL_acts_1200 : decode cL_acts 1200 = .ok (.aload_n 2, 1) := by decide +kernel
theorem dL_acts_1201 : decode cL_acts 1201 = .ok (.aload_n 3, 1) := by decide +kernel
theorem dL_acts_1202 : decode cL_acts 1202 = .ok (.aload 4, 2) := by decide +kernel
theorem dL_acts_1204 : decode cL_acts 1204 = .ok (.aload 5, 2) := by decide +kernel
theorem dL_acts_1206 : decode cL_acts 1206 = .ok (.iload 12, 2) := by decide +kernel
theorem dL_acts_1208 : decode cL_acts 1208 = .ok (.iload 10, 2) := by decide +kernel
theorem dL_acts_1210 : decode cL_acts 1210 = .ok (.iload 11, 2) := by decide +kernel
theorem dL_acts_1212 : decode cL_acts 1212 = .ok (.invokestatic 173, 3) := by decide +kernel
theorem dL_acts_1215 : decode cL_acts 1215 = .ok (.goto 23, 3) := by decide +kernel
theorem dL_acts_1218 : decode cL_acts 1218 = .ok (.aload_n 0, 1) := by decide +kernel
theorem dL_acts_1219 : decode cL_acts 1219 = .ok (.aload_n 1, 1) := by decide +kernel
theorem dL_acts_1220 : decode cL_acts 1220 = .ok (.aload_n 3, 1) := by decide +kernel
theorem dL_acts_1221 : decode cL_acts 1221 = .ok (.aload 4, 2) := by decide +kernel
theorem dL_acts_1223 : decode cL_acts 1223 = .ok (.aload 5, 2) := by decide +kernel
theorem dL_acts_1225 : decode cL_acts 1225 = .ok (.aload 6, 2) := by decide +kernel
theorem dL_acts_1227 : decode cL_acts 1227 = .ok (.iload 12, 2) := by decide +kernel
theorem dL_acts_1229 : decode cL_acts 1229 = .ok (.iload 10, 2) := by decide +kernel
theorem dL_acts_1231 : decode cL_acts 1231 = .ok (.iload 8, 2) := by decide +kernel
theorem dL_acts_1233 : decode cL_acts 1233 = .ok (.iconst 5, 1) := by decide +kernel
theorem dL_acts_1234 : decode cL_acts 1234 = .ok (.ishr, 1) := by decide +kernel
theorem dL_acts_1235 : decode cL_acts 1235 = .ok (.invokestatic 177, 3) := by decide +kernel
theorem dL_acts_1238 : decode cL_acts 1238 = .ok (.ireturn, 1) := by decide +kernel
theorem dL_law_0 : decode cL_law 0 = .ok (.new 11, 3) := by decide +kernel
theorem dL_law_3 : decode cL_law 3 = .ok (.dup, 1) := by decide +kernel
theorem dL_law_4 : decode cL_law 4 = .ok (.invokespecial 180, 3) := by decide +kernel
theorem dL_law_7 : decode cL_law 7 = .ok (.astore_n 1, 1) := by decide +kernel
theorem dL_law_8 : decode cL_law 8 = .ok (.new 11, 3) := by decide +kernel
theorem dL_law_11 : decode cL_law 11 = .ok (.dup, 1) := by decide +kernel
theorem dL_law_12 : decode cL_law 12 = .ok (.invokespecial 180, 3) := by decide +kernel
theorem dL_law_15 : decode cL_law 15 = .ok (.astore_n 2, 1) := by decide +kernel
theorem dL_law_16 : decode cL_law 16 = .ok (.bipush 11, 2) := by decide +kernel
theorem dL_law_18 : decode cL_law 18 = .ok (.newarray .int, 2) := by decide +kernel
theorem dL_law_20 : decode cL_law 20 = .ok (.astore_n 3, 1) := by decide +kernel
theorem dL_law_21 : decode cL_law 21 = .ok (.bipush 12, 2) := by decide +kernel
theorem dL_law_23 : decode cL_law 23 = .ok (.newarray .int, 2) := by decide +kernel
theorem dL_law_25 : decode cL_law 25 = .ok (.astore 4, 2) := by decide +kernel
theorem dL_law_27 : decode cL_law 27 = .ok (.bipush 60, 2) := by decide +kernel
theorem dL_law_29 : decode cL_law 29 = .ok (.newarray .int, 2) := by decide +kernel
theorem dL_law_31 : decode cL_law 31 = .ok (.astore 5, 2) := by decide +kernel
theorem dL_law_33 : decode cL_law 33 = .ok (.bipush 6, 2) := by decide +kernel
theorem dL_law_35 : decode cL_law 35 = .ok (.newarray .int, 2) := by decide +kernel
theorem dL_law_37 : decode cL_law 37 = .ok (.astore 6, 2) := by decide +kernel
theorem dL_law_39 : decode cL_law 39 = .ok (.iconst 3, 1) := by decide +kernel
theorem dL_law_40 : decode cL_law 40 = .ok (.newarray .int, 2) := by decide +kernel
theorem dL_law_42 : decode cL_law 42 = .ok (.astore 7, 2) := by decide +kernel
theorem dL_law_44 : decode cL_law 44 = .ok (.iconst 0, 1) := by decide +kernel
theorem dL_law_45 : decode cL_law 45 = .ok (.istore 8, 2) := by decide +kernel
theorem dL_law_47 : decode cL_law 47 = .ok (.iload 8, 2) := by decide +kernel
theorem dL_law_49 : decode cL_law 49 = .ok (.bipush 11, 2) := by decide +kernel
theorem dL_law_51 : decode cL_law 51 = .ok (.if_icmp .ge 25, 3) := by decide +kernel
theorem dL_law_54 : decode cL_law 54 = .ok (.aload_n 3, 1) := by decide +kernel
theorem dL_law_55 : decode cL_law 55 = .ok (.iload 8, 2) := by decide +kernel
theorem dL_law_57 : decode cL_law 57 = .ok (.iload 8, 2) := by decide +kernel
theorem dL_law_59 : decode cL_law 59 = .ok (.iconst 5, 1) := by decide +kernel
theorem dL_law_60 : decode cL_law 60 = .ok (.if_icmp .ge 7, 3) := by decide +kernel
theorem dL_law_63 : decode cL_law 63 = .ok (.iconst 1, 1) := by decide +kernel
theorem dL_law_64 : decode cL_law 64 = .ok (.goto 5, 3) := by decide +kernel
theorem dL_law_67 : decode cL_law 67 = .ok (.bipush 100, 2) := by decide +kernel
theorem dL_law_69 : decode cL_law 69 = .ok (.iastore, 1) := by decide +kernel
theorem dL_law_70 : decode cL_law 70 = .ok (.iinc 8 1, 3) := by decide +kernel
theorem dL_law_73 : decode cL_law 73 = .ok (.goto (-26), 3) := by decide +kernel
theorem dL_law_76 : decode cL_law 76 = .ok (.aload_n 1, 1) := by decide +kernel
theorem dL_law_77 : decode cL_law 77 = .ok (.invokevirtual 89, 3) := by decide +kernel
theorem dL_law_80 : decode cL_law 80 = .ok (.ifCond .ne 41, 3) := by decide +kernel
theorem dL_law_83 : decode cL_law 83 = .ok (.aload_n 1, 1) := by decide +kernel
theorem dL_law_84 : decode cL_law 84 = .ok (.invokevirtual 112, 3) := by decide +kernel
theorem dL_law_87 : decode cL_law 87 = .ok (.ifCond .ne 34, 3) := by decide +kernel
theorem dL_law_90 : decode cL_law 90 = .ok (.aload_n 1, 1) := by decide +kernel
theorem dL_law_91 : decode cL_law 91 = .ok (.invokevirtual 118, 3) := by decide +kernel
theorem dL_law_94 : decode cL_law 94 = .ok (.ifCond .ne 27, 3) := by decide +kernel
theorem dL_law_97 : decode cL_law 97 = .ok (.aload_n 1, 1) := by decide +kernel
theorem dL_law_98 : decode cL_law 98 = .ok (.iconst 0, 1) := by decide +kernel
theorem dL_law_99 : decode cL_law 99 = .ok (.invokestatic 137, 3) := by decide +kernel
theorem dL_law_102 : decode cL_law 102 = .ok (.iconst (-1), 1) := by decide +kernel
theorem dL_law_103 : decode cL_law 103 = .ok (.if_icmp .ne 18, 3) := by decide +kernel
theorem dL_law_106 : decode cL_law 106 = .ok (.aload_n 1, 1) := by decide +kernel
theorem dL_law_107 : decode cL_law 107 = .ok (.iconst 0, 1) := by decide +kernel
theorem dL_law_108 : decode cL_law 108 = .ok (.iconst 0, 1) := by decide +kernel
theorem dL_law_109 : decode cL_law 109 = .ok (.invokestatic 121, 3) := by decide +kernel
theorem dL_law_112 : decode cL_law 112 = .ok (.ldc 18, 2) := by decide +kernel
theorem dL_law_114 : decode cL_law 114 = .ok (.if_icmp .ne 7, 3) := by decide +kernel
theorem dL_law_117 : decode cL_law 117 = .ok (.iconst 1, 1) := by decide +kernel
theorem dL_law_118 : decode cL_law 118 = .ok (.goto 4, 3) := by decide +kernel
theorem dL_law_121 : decode cL_law 121 = .ok (.iconst 0, 1) := by decide +kernel
theorem dL_law_122 : decode cL_law 122 = .ok (.istore 8, 2) := by decide +kernel
theorem dL_law_124 : decode cL_law 124 = .ok (.iconst 0, 1) := by decide +kernel
theorem dL_law_125 : decode cL_law 125 = .ok (.istore 9, 2) := by decide +kernel
theorem dL_law_127 : decode cL_law 127 = .ok (.iload 9, 2) := by decide +kernel
theorem dL_law_129 : decode cL_law 129 = .ok (.bipush 110, 2) := by decide +kernel
theorem dL_law_131 : decode cL_law 131 = .ok (.if_icmp .ge 96, 3) := by decide +kernel
theorem dL_law_134 : decode cL_law 134 = .ok (.iload 8, 2) := by decide +kernel
theorem dL_law_136 : decode cL_law 136 = .ok (.ifCond .eq 91, 3) := by decide +kernel
theorem dL_law_139 : decode cL_law 139 = .ok (.aload_n 1, 1) := by decide +kernel
theorem dL_law_140 : decode cL_law 140 = .ok (.aload_n 2, 1) := by decide +kernel
theorem dL_law_141 : decode cL_law 141 = .ok (.aload_n 3, 1) := by decide +kernel
theorem dL_law_142 : decode cL_law 142 = .ok (.aload 4, 2) := by decide +kernel
theorem dL_law_144 : decode cL_law 144 = .ok (.aload 5, 2) := by decide +kernel
theorem dL_law_146 : decode cL_law 146 = .ok (.aload 6, 2) := by decide +kernel
theorem dL_law_148 : decode cL_law 148 = .ok (.aload 7, 2) := by decide +kernel
theorem dL_law_150 : decode cL_law 150 = .ok (.aload_n 0, 1) := by decide +kernel
theorem dL_law_151 : decode cL_law 151 = .ok (.iconst 2, 1) := by decide +kernel
theorem dL_law_152 : decode cL_law 152 = .ok (.iload 9, 2) := by decide +kernel
theorem dL_law_154 : decode cL_law 154 = .ok (.imul, 1) := by decide +kernel
theorem dL_law_155 : decode cL_law 155 = .ok (.invokestatic 181, 3) := by decide +kernel
theorem dL_law_158 : decode cL_law 158 = .ok (.aload_n 0, 1) := by decide +kernel
theorem dL_law_159 : decode cL_law 159 = .ok (.iconst 2, 1) := by decide +kernel
theorem dL_law_160 : decode cL_law 160 = .ok (.iload 9, 2) := by decide +kernel
theorem dL_law_162 : decode cL_law 162 = .ok (.imul, 1) := by decide +kernel
theorem dL_law_163 : decode cL_law 163 = .ok (.iconst 1, 1) := by decide +kernel
theorem dL_law_164 : decode cL_law 164 = .ok (.iadd, 1) := by decide +kernel
theorem dL_law_165 : decode cL_law 165 = .ok (.invokestatic 181, 3) := by decide +kernel
theorem dL_law_168 : decode cL_law 168 = .ok (.invokestatic 185, 3) := by decide +kernel
theorem dL_law_171 : decode cL_law 171 = .ok (.istore 8, 2) := by decide +kernel
theorem dL_law_173 : decode cL_law 173 = .ok (.iload 8, 2) := by decide +kernel
theorem dL_law_175 : decode cL_law 175 = .ok (.ifCond .eq 46, 3) := by decide +kernel
theorem dL_law_178 : decode cL_law 178 = .ok (.iload 9, 2) := by decide +kernel
theorem dL_law_180 : decode cL_law 180 = .ok (.iconst 4, 1) := by decide +kernel
theorem dL_law_181 : decode cL_law 181 = .ok (.irem, 1) := by decide +kernel
theorem dL_law_182 : decode cL_law 182 = .ok (.iconst 3, 1) := by decide +kernel
theorem dL_law_183 : decode cL_law 183 = .ok (.if_icmp .ne 38, 3) := by decide +kernel
theorem dL_law_186 : decode cL_law 186 = .ok (.aload_n 1, 1) := by decide +kernel
theorem dL_law_187 : decode cL_law 187 = .ok (.aload_n 3, 1) := by decide +kernel
theorem dL_law_188 : decode cL_law 188 = .ok (.aload 4, 2) := by decide +kernel
theorem dL_law_190 : decode cL_law 190 = .ok (.aload 5, 2) := by decide +kernel
theorem dL_law_192 : decode cL_law 192 = .ok (.aload 6, 2) := by decide +kernel
theorem dL_law_194 : decode cL_law 194 = .ok (.aload 7, 2) := by decide +kernel
theorem dL_law_196 : decode cL_law 196 = .ok (.invokestatic 189, 3) := by decide +kernel
theorem dL_law_199 : decode cL_law 199 = .ok (.ifCond .eq 19, 3) := by decide +kernel
theorem dL_law_202 : decode cL_law 202 = .ok (.aload_n 1, 1) := by decide +kernel
theorem dL_law_203 : decode cL_law 203 = .ok (.invokestatic 193, 3) := by decide +kernel
theorem dL_law_206 : decode cL_law 206 = .ok (.aload_n 2, 1) := by decide +kernel
theorem dL_law_207 : decode cL_law 207 = .ok (.invokestatic 193, 3) := by decide +kernel
theorem dL_law_210 : decode cL_law 210 = .ok (.lcmp, 1) := by decide +kernel
theorem dL_law_211 : decode cL_law 211 = .ok (.ifCond .ne 7, 3) := by decide +kernel
theorem dL_law_214 : decode cL_law 214 = .ok (.iconst 1, 1) := by decide +kernel
theorem dL_law_215 : decode cL_law 215 = .ok (.goto 4, 3) := by decide +kernel
theorem dL_law_218 : decode cL_law 218 = .ok (.iconst 0, 1) := by decide +kernel
theorem dL_law_219 : decode cL_law 219 = .ok (.istore 8, 2) := by decide +kernel
theorem dL_law_221 : decode cL_law 221 = .ok (.iinc 9 1, 3) := by decide +kernel
theorem dL_law_224 : decode cL_law 224 = .ok (.goto (-97), 3) := by decide +kernel
theorem dL_law_227 : decode cL_law 227 = .ok (.iload 8, 2) := by decide +kernel
theorem dL_law_229 : decode cL_law 229 = .ok (.ireturn, 1) := by decide +kernel
