theorem dL_agree_0 : decode cL_agree 0 = .ok (.iconst 0, 1) := by decide +kernel
theorem dL_agree_1 : decode cL_agree 1 = .ok (.istore 8, 2) := by decide +kernel
theorem dL_agree_3 : decode cL_agree 3 = .ok (.iload 8, 2) := by decide +kernel
theorem dL_agree_5 : decode cL_agree 5 = .ok (.aload_n 2, 1) := by decide +kernel
theorem dL_agree_6 : decode cL_agree 6 = .ok (.iconst 0, 1) := by decide +kernel
theorem dL_agree_7 : decode cL_agree 7 = .ok (.iaload, 1) := by decide +kernel
theorem dL_agree_8 : decode cL_agree 8 = .ok (.if_icmp .ge 308, 3) := by decide +kernel
theorem dL_agree_11 : decode cL_agree 11 = .ok (.iconst 0, 1) := by decide +kernel
theorem dL_agree_12 : decode cL_agree 12 = .ok (.istore 9, 2) := by decide +kernel
theorem dL_agree_14 : decode cL_agree 14 = .ok (.iconst 0, 1) := by decide +kernel
theorem dL_agree_15 : decode cL_agree 15 = .ok (.istore 10, 2) := by decide +kernel
theorem dL_agree_17 : decode cL_agree 17 = .ok (.iconst 0, 1) := by decide +kernel
theorem dL_agree_18 : decode cL_agree 18 = .ok (.istore 11, 2) := by decide +kernel
theorem dL_agree_20 : decode cL_agree 20 = .ok (.iload 11, 2) := by decide +kernel
theorem dL_agree_22 : decode cL_agree 22 = .ok (.sipush 150, 3) := by decide +kernel
theorem dL_agree_25 : decode cL_agree 25 = .ok (.if_icmp .ge 41, 3) := by decide +kernel
theorem dL_agree_28 : decode cL_agree 28 = .ok (.aload 7, 2) := by decide +kernel
theorem dL_agree_30 : decode cL_agree 30 = .ok (.iconst 3, 1) := by decide +kernel
theorem dL_agree_31 : decode cL_agree 31 = .ok (.iload 8, 2) := by decide +kernel
theorem dL_agree_33 : decode cL_agree 33 = .ok (.iload 11, 2) := by decide +kernel
theorem dL_agree_35 : decode cL_agree 35 = .ok (.invokestatic 14, 3) := by decide +kernel
theorem dL_agree_38 : decode cL_agree 38 = .ok (.ifCond .eq 6, 3) := by decide +kernel
theorem dL_agree_41 : decode cL_agree 41 = .ok (.iinc 9 1, 3) := by decide +kernel
theorem dL_agree_44 : decode cL_agree 44 = .ok (.aload 5, 2) := by decide +kernel
theorem dL_agree_46 : decode cL_agree 46 = .ok (.iconst 3, 1) := by decide +kernel
theorem dL_agree_47 : decode cL_agree 47 = .ok (.iload 8, 2) := by decide +kernel
theorem dL_agree_49 : decode cL_agree 49 = .ok (.iload 11, 2) := by decide +kernel
theorem dL_agree_51 : decode cL_agree 51 = .ok (.invokestatic 14, 3) := by decide +kernel
theorem dL_agree_54 : decode cL_agree 54 = .ok (.ifCond .eq 6, 3) := by decide +kernel
theorem dL_agree_57 : decode cL_agree 57 = .ok (.iinc 10 1, 3) := by decide +kernel
theorem dL_agree_60 : decode cL_agree 60 = .ok (.iinc 11 1, 3) := by decide +kernel
theorem dL_agree_63 : decode cL_agree 63 = .ok (.goto (-43), 3) := by decide +kernel
theorem dL_agree_66 : decode cL_agree 66 = .ok (.iconst (-1), 1) := by decide +kernel
theorem dL_agree_67 : decode cL_agree 67 = .ok (.istore 11, 2) := by decide +kernel
theorem dL_agree_69 : decode cL_agree 69 = .ok (.iconst (-1), 1) := by decide +kernel
theorem dL_agree_70 : decode cL_agree 70 = .ok (.istore 12, 2) := by decide +kernel
theorem dL_agree_72 : decode cL_agree 72 = .ok (.iconst 0, 1) := by decide +kernel
theorem dL_agree_73 : decode cL_agree 73 = .ok (.istore 13, 2) := by decide +kernel
theorem dL_agree_75 : decode cL_agree 75 = .ok (.iload 13, 2) := by decide +kernel
theorem dL_agree_77 : decode cL_agree 77 = .ok (.bipush 100, 2) := by decide +kernel
theorem dL_agree_79 : decode cL_agree 79 = .ok (.if_icmp .ge 35, 3) := by decide +kernel
theorem dL_agree_82 : decode cL_agree 82 = .ok (.aload 4, 2) := by decide +kernel
theorem dL_agree_84 : decode cL_agree 84 = .ok (.iconst 2, 1) := by decide +kernel
theorem dL_agree_85 : decode cL_agree 85 = .ok (.iload 8, 2) := by decide +kernel
theorem dL_agree_87 : decode cL_agree 87 = .ok (.iload 13, 2) := by decide +kernel
theorem dL_agree_89 : decode cL_agree 89 = .ok (.invokestatic 14, 3) := by decide +kernel
theorem dL_agree_92 : decode cL_agree 92 = .ok (.ifCond .eq 16, 3) := by decide +kernel
theorem dL_agree_95 : decode cL_agree 95 = .ok (.iload 13, 2) := by decide +kernel
theorem dL_agree_97 : decode cL_agree 97 = .ok (.istore 12, 2) := by decide +kernel
theorem dL_agree_99 : decode cL_agree 99 = .ok (.iload 11, 2) := by decide +kernel
theorem dL_agree_101 : decode cL_agree 101 = .ok (.ifCond .ge 7, 3) := by decide +kernel
theorem dL_agree_104 : decode cL_agree 104 = .ok (.iload 13, 2) := by decide +kernel
theorem dL_agree_106 : decode cL_agree 106 = .ok (.istore 11, 2) := by decide +kernel
theorem dL_agree_108 : decode cL_agree 108 = .ok (.iinc 13 1, 3) := by decide +kernel
theorem dL_agree_111 : decode cL_agree 111 = .ok (.goto (-36), 3) := by decide +kernel
theorem dL_agree_114 : decode cL_agree 114 = .ok (.aload_n 0, 1) := by decide +kernel
theorem dL_agree_115 : decode cL_agree 115 = .ok (.iload 8, 2) := by decide +kernel
theorem dL_agree_117 : decode cL_agree 117 = .ok (.iconst 0, 1) := by decide +kernel
theorem dL_agree_118 : decode cL_agree 118 = .ok (.invokevirtual 66, 3) := by decide +kernel
theorem dL_agree_121 : decode cL_agree 121 = .ok (.aload_n 3, 1) := by decide +kernel
theorem dL_agree_122 : decode cL_agree 122 = .ok (.bipush 6, 2) := by decide +kernel
theorem dL_agree_124 : decode cL_agree 124 = .ok (.iload 8, 2) := by decide +kernel
theorem dL_agree_126 : decode cL_agree 126 = .ok (.imul, 1) := by decide +kernel
theorem dL_agree_127 : decode cL_agree 127 = .ok (.iaload, 1) := by decide +kernel
theorem dL_agree_128 : decode cL_agree 128 = .ok (.if_icmp .ne 138, 3) := by decide +kernel
theorem dL_agree_131 : decode cL_agree 131 = .ok (.aload_n 0, 1) := by decide +kernel
theorem dL_agree_132 : decode cL_agree 132 = .ok (.iload 8, 2) := by decide +kernel
theorem dL_agree_134 : decode cL_agree 134 = .ok (.iconst 1, 1) := by decide +kernel
theorem dL_agree_135 : decode cL_agree 135 = .ok (.invokevirtual 66, 3) := by decide +kernel
theorem dL_agree_138 : decode cL_agree 138 = .ok (.aload_n 3, 1) := by decide +kernel
theorem dL_agree_139 : decode cL_agree 139 = .ok (.bipush 6, 2) := by decide +kernel
theorem dL_agree_141 : decode cL_agree 141 = .ok (.iload 8, 2) := by decide +kernel
theorem dL_agree_143 : decode cL_agree 143 = .ok (.imul, 1) := by decide +kernel
theorem dL_agree_144 : decode cL_agree 144 = .ok (.iconst 1, 1) := by decide +kernel
theorem dL_agree_145 : decode cL_agree 145 = .ok (.iadd, 1) := by decide +kernel
theorem dL_agree_146 : decode cL_agree 146 = .ok (.iaload, 1) := by decide +kernel
theorem dL_agree_147 : decode cL_agree 147 = .ok (.if_icmp .ne 119, 3) := by decide +kernel
theorem dL_agree_150 : decode cL_agree 150 = .ok (.aload_n 0, 1) := by decide +kernel
theorem dL_agree_151 : decode cL_agree 151 = .ok (.iload 8, 2) := by decide +kernel
theorem dL_agree_153 : decode cL_agree 153 = .ok (.iconst 3, 1) := by decide +kernel
theorem dL_agree_154 : decode cL_agree 154 = .ok (.invokevirtual 66, 3) := by decide +kernel
theorem dL_agree_157 : decode cL_agree 157 = .ok (.aload_n 3, 1) := by decide +kernel
theorem dL_agree_158 : decode cL_agree 158 = .ok (.bipush 6, 2) := by decide +kernel
theorem dL_agree_160 : decode cL_agree 160 = .ok (.iload 8, 2) := by decide +kernel
theorem dL_agree_162 : decode cL_agree 162 = .ok (.imul, 1) := by decide +kernel
theorem dL_agree_163 : decode cL_agree 163 = .ok (.iconst 3, 1) := by decide +kernel
theorem dL_agree_164 : decode cL_agree 164 = .ok (.iadd, 1) := by decide +kernel
theorem dL_agree_165 : decode cL_agree 165 = .ok (.iaload, 1) := by decide +kernel
theorem dL_agree_166 : decode cL_agree 166 = .ok (.if_icmp .ne 100, 3) := by decide +kernel
theorem dL_agree_169 : decode cL_agree 169 = .ok (.aload_n 0, 1) := by decide +kernel
theorem dL_agree_170 : decode cL_agree 170 = .ok (.iload 8, 2) := by decide +kernel
theorem dL_agree_172 : decode cL_agree 172 = .ok (.iconst 5, 1) := by decide +kernel
theorem dL_agree_173 : decode cL_agree 173 = .ok (.invokevirtual 66, 3) := by decide +kernel
theorem dL_agree_176 : decode cL_agree 176 = .ok (.aload_n 2, 1) := by decide +kernel
theorem dL_agree_177 : decode cL_agree 177 = .ok (.aload_n 3, 1) := by decide +kernel
theorem dL_agree_178 : decode cL_agree 178 = .ok (.aload 4, 2) := by decide +kernel
theorem dL_agree_180 : decode cL_agree 180 = .ok (.aload 5, 2) := by decide +kernel
theorem dL_agree_182 : decode cL_agree 182 = .ok (.aload 6, 2) := by decide +kernel
theorem dL_agree_184 : decode cL_agree 184 = .ok (.aload 7, 2) := by decide +kernel
theorem dL_agree_186 : decode cL_agree 186 = .ok (.iload 8, 2) := by decide +kernel
theorem dL_agree_188 : decode cL_agree 188 = .ok (.invokestatic 52, 3) := by decide +kernel
theorem dL_agree_191 : decode cL_agree 191 = .ok (.if_icmp .ne 75, 3) := by decide +kernel
theorem dL_agree_194 : decode cL_agree 194 = .ok (.aload_n 0, 1) := by decide +kernel
theorem dL_agree_195 : decode cL_agree 195 = .ok (.iload 8, 2) := by decide +kernel
theorem dL_agree_197 : decode cL_agree 197 = .ok (.bipush 6, 2) := by decide +kernel
theorem dL_agree_199 : decode cL_agree 199 = .ok (.invokevirtual 66, 3) := by decide +kernel
theorem dL_agree_202 : decode cL_agree 202 = .ok (.iload 9, 2) := by decide +kernel
theorem dL_agree_204 : decode cL_agree 204 = .ok (.if_icmp .ne 62, 3) := by decide +kernel
theorem dL_agree_207 : decode cL_agree 207 = .ok (.aload_n 0, 1) := by decide +kernel
theorem dL_agree_208 : decode cL_agree 208 = .ok (.iload 8, 2) := by decide +kernel
theorem dL_agree_210 : decode cL_agree 210 = .ok (.bipush 7, 2) := by decide +kernel
theorem dL_agree_212 : decode cL_agree 212 = .ok (.invokevirtual 66, 3) := by decide +kernel
theorem dL_agree_215 : decode cL_agree 215 = .ok (.aload_n 3, 1) := by decide +kernel
theorem dL_agree_216 : decode cL_agree 216 = .ok (.bipush 6, 2) := by decide +kernel
theorem dL_agree_218 : decode cL_agree 218 = .ok (.iload 8, 2) := by decide +kernel
theorem dL_agree_220 : decode cL_agree 220 = .ok (.imul, 1) := by decide +kernel
theorem dL_agree_221 : decode cL_agree 221 = .ok (.iconst 5, 1) := by decide +kernel
theorem dL_agree_222 : decode cL_agree 222 = .ok (.iadd, 1) := by decide +kernel
theorem dL_agree_223 : decode cL_agree 223 = .ok (.iaload, 1) := by decide +kernel
theorem dL_agree_224 : decode cL_agree 224 = .ok (.if_icmp .ne 42, 3) := by decide +kernel
theorem dL_agree_227 : decode cL_agree 227 = .ok (.aload_n 0, 1) := by decide +kernel
theorem dL_agree_228 : decode cL_agree 228 = .ok (.iload 8, 2) := by decide +kernel
theorem dL_agree_230 : decode cL_agree 230 = .ok (.bipush 8, 2) := by decide +kernel
theorem dL_agree_232 : decode cL_agree 232 = .ok (.invokevirtual 66, 3) := by decide +kernel
theorem dL_agree_235 : decode cL_agree 235 = .ok (.iload 10, 2) := by decide +kernel
theorem dL_agree_237 : decode cL_agree 237 = .ok (.if_icmp .ne 29, 3) := by decide +kernel
theorem dL_agree_240 : decode cL_agree 240 = .ok (.aload_n 0, 1) := by decide +kernel
theorem dL_agree_241 : decode cL_agree 241 = .ok (.iload 8, 2) := by decide +kernel
theorem dL_agree_243 : decode cL_agree 243 = .ok (.bipush 10, 2) := by decide +kernel
theorem dL_agree_245 : decode cL_agree 245 = .ok (.invokevirtual 66, 3) := by decide +kernel
theorem dL_agree_248 : decode cL_agree 248 = .ok (.iload 11, 2) := by decide +kernel
theorem dL_agree_250 : decode cL_agree 250 = .ok (.if_icmp .ne 16, 3) := by decide +kernel
theorem dL_agree_253 : decode cL_agree 253 = .ok (.aload_n 0, 1) := by decide +kernel
theorem dL_agree_254 : decode cL_agree 254 = .ok (.iload 8, 2) := by decide +kernel
theorem dL_agree_256 : decode cL_agree 256 = .ok (.bipush 11, 2) := by decide +kernel
theorem dL_agree_258 : decode cL_agree 258 = .ok (.invokevirtual 66, 3) := by decide +kernel
theorem dL_agree_261 : decode cL_agree 261 = .ok (.iload 12, 2) := by decide +kernel
theorem dL_agree_263 : decode cL_agree 263 = .ok (.if_icmp .eq 5, 3) := by decide +kernel
theorem dL_agree_266 : decode cL_agree 266 = .ok (.iconst 0, 1) := by decide +kernel
theorem dL_agree_267 : decode cL_agree 267 = .ok (.ireturn, 1) := by decide +kernel
theorem dL_agree_268 : decode cL_agree 268 = .ok (.iload_n 1, 1) := by decide +kernel
theorem dL_agree_269 : decode cL_agree 269 = .ok (.iload 8, 2) := by decide +kernel
theorem dL_agree_271 : decode cL_agree 271 = .ok (.ishr, 1) := by decide +kernel
theorem dL_agree_272 : decode cL_agree 272 = .ok (.sipush 150, 3) := by decide +kernel
theorem dL_agree_275 : decode cL_agree 275 = .ok (.invokestatic 36, 3) := by decide +kernel
theorem dL_agree_278 : decode cL_agree 278 = .ok (.istore 13, 2) := by decide +kernel
theorem dL_agree_280 : decode cL_agree 280 = .ok (.aload_n 0, 1) := by decide +kernel
theorem dL_agree_281 : decode cL_agree 281 = .ok (.iload 13, 2) := by decide +kernel
theorem dL_agree_283 : decode cL_agree 283 = .ok (.iload 8, 2) := by decide +kernel
theorem dL_agree_285 : decode cL_agree 285 = .ok (.invokevirtual 91, 3) := by decide +kernel
theorem dL_agree_288 : decode cL_agree 288 = .ok (.aload_n 2, 1) := by decide +kernel
theorem dL_agree_289 : decode cL_agree 289 = .ok (.aload_n 3, 1) := by decide +kernel
theorem dL_agree_290 : decode cL_agree 290 = .ok (.aload 4, 2) := by decide +kernel
theorem dL_agree_292 : decode cL_agree 292 = .ok (.aload 5, 2) := by decide +kernel
theorem dL_agree_294 : decode cL_agree 294 = .ok (.aload 6, 2) := by decide +kernel
theorem dL_agree_296 : decode cL_agree 296 = .ok (.aload 7, 2) := by decide +kernel
theorem dL_agree_298 : decode cL_agree 298 = .ok (.iload 13, 2) := by decide +kernel
theorem dL_agree_300 : decode cL_agree 300 = .ok (.iload 8, 2) := by decide +kernel
theorem dL_agree_302 : decode cL_agree 302 = .ok (.invokestatic 24, 3) := by decide +kernel
theorem dL_agree_305 : decode cL_agree 305 = .ok (.if_icmp .eq 5, 3) := by decide +kernel
theorem dL_agree_308 : decode cL_agree 308 = .ok (.iconst 0, 1) := by decide +kernel
theorem dL_agree_309 : decode cL_agree 309 = .ok (.ireturn, 1) := by decide +kernel
theorem dL_agree_310 : decode cL_agree 310 = .ok (.iinc 8 1, 3) := by decide +kernel
theorem dL_agree_313 : decode cL_agree 313 = .ok (.goto (-310), 3) := by decide +kernel
theorem dL_agree_316 : decode cL_agree 316 = .ok (.aload_n 0, 1) := by decide +kernel
theorem dL_agree_317 : decode cL_agree 317 = .ok (.iconst 0, 1) := by decide +kernel
theorem dL_agree_318 : decode cL_agree 318 = .ok (.invokevirtual 93, 3) := by decide +kernel
theorem dL_agree_321 : decode cL_agree 321 = .ok (.aload_n 2, 1) := by decide +kernel
theorem dL_agree_322 : decode cL_agree 322 = .ok (.iconst 0, 1) := by decide +kernel
theorem dL_agree_323 : decode cL_agree 323 = .ok (.iaload, 1) := by decide +kernel
theorem dL_agree_324 : decode cL_agree 324 = .ok (.if_icmp .ne 100, 3) := by decide +kernel
theorem dL_agree_327 : decode cL_agree 327 = .ok (.aload_n 0, 1) := by decide +kernel
theorem dL_agree_328 : decode cL_agree 328 = .ok (.iconst 2, 1) := by decide +kernel
theorem dL_agree_329 : decode cL_agree 329 = .ok (.invokevirtual 93, 3) := by decide +kernel
theorem dL_agree_332 : decode cL_agree 332 = .ok (.aload_n 2, 1) := by decide +kernel
theorem dL_agree_333 : decode cL_agree 333 = .ok (.iconst 1, 1) := by decide +kernel
theorem dL_agree_334 : decode cL_agree 334 = .ok (.iaload, 1) := by decide +kernel
theorem dL_agree_335 : decode cL_agree 335 = .ok (.if_icmp .ne 89, 3) := by decide +kernel
theorem dL_agree_338 : decode cL_agree 338 = .ok (.aload_n 0, 1) := by decide +kernel
theorem dL_agree_339 : decode cL_agree 339 = .ok (.iconst 3, 1) := by decide +kernel
theorem dL_agree_340 : decode cL_agree 340 = .ok (.invokevirtual 93, 3) := by decide +kernel
theorem dL_agree_343 : decode cL_agree 343 = .ok (.aload_n 2, 1) := by decide +kernel
theorem dL_agree_344 : decode cL_agree 344 = .ok (.iconst 2, 1) := by decide +kernel
theorem dL_agree_345 : decode cL_agree 345 = .ok (.iaload, 1) := by decide +kernel
theorem dL_agree_346 : decode cL_agree 346 = .ok (.if_icmp .ne 78, 3) := by decide +kernel
theorem dL_agree_349 : decode cL_agree 349 = .ok (.aload_n 0, 1) := by decide +kernel
theorem dL_agree_350 : decode cL_agree 350 = .ok (.bipush 8, 2) := by decide +kernel
theorem dL_agree_352 : decode cL_agree 352 = .ok (.invokevirtual 93, 3) := by decide +kernel
theorem dL_agree_355 : decode cL_agree 355 = .ok (.aload_n 2, 1) := by decide +kernel
theorem dL_agree_356 : decode cL_agree 356 = .ok (.iconst 3, 1) := by decide +kernel
theorem dL_agree_357 : decode cL_agree 357 = .ok (.iaload, 1) := by decide +kernel
theorem dL_agree_358 : decode cL_agree 358 = .ok (.if_icmp .ne 66, 3) := by decide +kernel
theorem dL_agree_361 : decode cL_agree 361 = .ok (.aload_n 0, 1) := by decide +kernel
theorem dL_agree_362 : decode cL_agree 362 = .ok (.bipush 10, 2) := by decide +kernel
theorem dL_agree_364 : decode cL_agree 364 = .ok (.invokevirtual 93, 3) := by decide +kernel
theorem dL_agree_367 : decode cL_agree 367 = .ok (.aload_n 2, 1) := by decide +kernel
theorem dL_agree_368 : decode cL_agree 368 = .ok (.iconst 4, 1) := by decide +kernel
theorem dL_agree_369 : decode cL_agree 369 = .ok (.iaload, 1) := by decide +kernel
theorem dL_agree_370 : decode cL_agree 370 = .ok (.if_icmp .ne 54, 3) := by decide +kernel
theorem dL_agree_373 : decode cL_agree 373 = .ok (.aload_n 0, 1) := by decide +kernel
theorem dL_agree_374 : decode cL_agree 374 = .ok (.bipush 12, 2) := by decide +kernel
theorem dL_agree_376 : decode cL_agree 376 = .ok (.invokevirtual 93, 3) := by decide +kernel
theorem dL_agree_379 : decode cL_agree 379 = .ok (.aload_n 2, 1) := by decide +kernel
theorem dL_agree_380 : decode cL_agree 380 = .ok (.bipush 6, 2) := by decide +kernel
theorem dL_agree_382 : decode cL_agree 382 = .ok (.iaload, 1) := by decide +kernel
theorem dL_agree_383 : decode cL_agree 383 = .ok (.if_icmp .ne 41, 3) := by decide +kernel
theorem dL_agree_386 : decode cL_agree 386 = .ok (.aload_n 0, 1) := by decide +kernel
theorem dL_agree_387 : decode cL_agree 387 = .ok (.bipush 20, 2) := by decide +kernel
theorem dL_agree_389 : decode cL_agree 389 = .ok (.invokevirtual 93, 3) := by decide +kernel
theorem dL_agree_392 : decode cL_agree 392 = .ok (.aload_n 2, 1) := by decide +kernel
theorem dL_agree_393 : decode cL_agree 393 = .ok (.aload_n 3, 1) := by decide +kernel
theorem dL_agree_394 : decode cL_agree 394 = .ok (.aload 4, 2) := by decide +kernel
theorem dL_agree_396 : decode cL_agree 396 = .ok (.iconst 0, 1) := by decide +kernel
theorem dL_agree_397 : decode cL_agree 397 = .ok (.invokestatic 45, 3) := by decide +kernel
theorem dL_agree_400 : decode cL_agree 400 = .ok (.if_icmp .ne 24, 3) := by decide +kernel
theorem dL_agree_403 : decode cL_agree 403 = .ok (.aload_n 0, 1) := by decide +kernel
theorem dL_agree_404 : decode cL_agree 404 = .ok (.bipush 22, 2) := by decide +kernel
theorem dL_agree_406 : decode cL_agree 406 = .ok (.invokevirtual 93, 3) := by decide +kernel
theorem dL_agree_409 : decode cL_agree 409 = .ok (.aload_n 2, 1) := by decide +kernel
theorem dL_agree_410 : decode cL_agree 410 = .ok (.aload_n 3, 1) := by decide +kernel
theorem dL_agree_411 : decode cL_agree 411 = .ok (.aload 4, 2) := by decide +kernel
theorem dL_agree_413 : decode cL_agree 413 = .ok (.iconst 2, 1) := by decide +kernel
theorem dL_agree_414 : decode cL_agree 414 = .ok (.invokestatic 45, 3) := by decide +kernel
theorem dL_agree_417 : decode cL_agree 417 = .ok (.if_icmp .ne 7, 3) := by decide +kernel
theorem dL_agree_420 : decode cL_agree 420 = .ok (.iconst 1, 1) := by decide +kernel
theorem dL_agree_421 : decode cL_agree 421 = .ok (.goto 4, 3) := by decide +kernel
theorem dL_agree_424 : decode cL_agree 424 = .ok (.iconst 0, 1) := by decide +kernel
theorem dL_agree_425 : decode cL_agree 425 = .ok (.ireturn, 1) := by decide +kernel
