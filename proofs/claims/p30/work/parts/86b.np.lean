theorem dL_persons_0 : decode cL_persons 0 = .ok (.iload_n 1, 1) := by decide +kernel
theorem dL_persons_1 : decode cL_persons 1 = .ok (.bipush 6, 2) := by decide +kernel
theorem dL_persons_3 : decode cL_persons 3 = .ok (.invokestatic 36, 3) := by decide +kernel
theorem dL_persons_6 : decode cL_persons 6 = .ok (.istore 9, 2) := by decide +kernel
theorem dL_persons_8 : decode cL_persons 8 = .ok (.iload 9, 2) := by decide +kernel
theorem dL_persons_10 : decode cL_persons 10 = .ok (.iconst 2, 1) := by decide +kernel
theorem dL_persons_11 : decode cL_persons 11 = .ok (.if_icmp .ge 162, 3) := by decide +kernel
theorem dL_persons_14 : decode cL_persons 14 = .ok (.iconst 1, 1) := by decide +kernel
theorem dL_persons_15 : decode cL_persons 15 = .ok (.iload_n 2, 1) := by decide +kernel
theorem dL_persons_16 : decode cL_persons 16 = .ok (.iconst 3, 1) := by decide +kernel
theorem dL_persons_17 : decode cL_persons 17 = .ok (.invokestatic 36, 3) := by decide +kernel
theorem dL_persons_20 : decode cL_persons 20 = .ok (.iadd, 1) := by decide +kernel
theorem dL_persons_21 : decode cL_persons 21 = .ok (.istore 10, 2) := by decide +kernel
theorem dL_persons_23 : decode cL_persons 23 = .ok (.iconst 0, 1) := by decide +kernel
theorem dL_persons_24 : decode cL_persons 24 = .ok (.istore 11, 2) := by decide +kernel
theorem dL_persons_26 : decode cL_persons 26 = .ok (.iconst 0, 1) := by decide +kernel
theorem dL_persons_27 : decode cL_persons 27 = .ok (.istore 12, 2) := by decide +kernel
theorem dL_persons_29 : decode cL_persons 29 = .ok (.iload 12, 2) := by decide +kernel
theorem dL_persons_31 : decode cL_persons 31 = .ok (.iload 10, 2) := by decide +kernel
theorem dL_persons_33 : decode cL_persons 33 = .ok (.if_icmp .ge 92, 3) := by decide +kernel
theorem dL_persons_36 : decode cL_persons 36 = .ok (.iconst 0, 1) := by decide +kernel
theorem dL_persons_37 : decode cL_persons 37 = .ok (.istore 13, 2) := by decide +kernel
theorem dL_persons_39 : decode cL_persons 39 = .ok (.iload 13, 2) := by decide +kernel
theorem dL_persons_41 : decode cL_persons 41 = .ok (.aload_n 3, 1) := by decide +kernel
theorem dL_persons_42 : decode cL_persons 42 = .ok (.iconst 0, 1) := by decide +kernel
theorem dL_persons_43 : decode cL_persons 43 = .ok (.iaload, 1) := by decide +kernel
theorem dL_persons_44 : decode cL_persons 44 = .ok (.if_icmp .ge 75, 3) := by decide +kernel
theorem dL_persons_47 : decode cL_persons 47 = .ok (.iconst 0, 1) := by decide +kernel
theorem dL_persons_48 : decode cL_persons 48 = .ok (.istore 14, 2) := by decide +kernel
theorem dL_persons_50 : decode cL_persons 50 = .ok (.iload 14, 2) := by decide +kernel
theorem dL_persons_52 : decode cL_persons 52 = .ok (.sipush 150, 3) := by decide +kernel
theorem dL_persons_55 : decode cL_persons 55 = .ok (.if_icmp .ge 58, 3) := by decide +kernel
theorem dL_persons_58 : decode cL_persons 58 = .ok (.aload_n 3, 1) := by decide +kernel
theorem dL_persons_59 : decode cL_persons 59 = .ok (.aload 4, 2) := by decide +kernel
theorem dL_persons_61 : decode cL_persons 61 = .ok (.aload 5, 2) := by decide +kernel
theorem dL_persons_63 : decode cL_persons 63 = .ok (.aload 6, 2) := by decide +kernel
theorem dL_persons_65 : decode cL_persons 65 = .ok (.aload 7, 2) := by decide +kernel
theorem dL_persons_67 : decode cL_persons 67 = .ok (.aload 8, 2) := by decide +kernel
theorem dL_persons_69 : decode cL_persons 69 = .ok (.iload 14, 2) := by decide +kernel
theorem dL_persons_71 : decode cL_persons 71 = .ok (.iload 13, 2) := by decide +kernel
theorem dL_persons_73 : decode cL_persons 73 = .ok (.invokestatic 24, 3) := by decide +kernel
theorem dL_persons_76 : decode cL_persons 76 = .ok (.ifCond .le 31, 3) := by decide +kernel
theorem dL_persons_79 : decode cL_persons 79 = .ok (.aload 8, 2) := by decide +kernel
theorem dL_persons_81 : decode cL_persons 81 = .ok (.iconst 3, 1) := by decide +kernel
theorem dL_persons_82 : decode cL_persons 82 = .ok (.iload 13, 2) := by decide +kernel
theorem dL_persons_84 : decode cL_persons 84 = .ok (.iload 14, 2) := by decide +kernel
theorem dL_persons_86 : decode cL_persons 86 = .ok (.iconst 1, 1) := by decide +kernel
theorem dL_persons_87 : decode cL_persons 87 = .ok (.invokestatic 32, 3) := by decide +kernel
theorem dL_persons_90 : decode cL_persons 90 = .ok (.aload 4, 2) := by decide +kernel
theorem dL_persons_92 : decode cL_persons 92 = .ok (.bipush 6, 2) := by decide +kernel
theorem dL_persons_94 : decode cL_persons 94 = .ok (.iload 13, 2) := by decide +kernel
theorem dL_persons_96 : decode cL_persons 96 = .ok (.imul, 1) := by decide +kernel
theorem dL_persons_97 : decode cL_persons 97 = .ok (.iconst 5, 1) := by decide +kernel
theorem dL_persons_98 : decode cL_persons 98 = .ok (.iadd, 1) := by decide +kernel
theorem dL_persons_99 : decode cL_persons 99 = .ok (.dup2, 1) := by decide +kernel
theorem dL_persons_100 : decode cL_persons 100 = .ok (.iaload, 1) := by decide +kernel
theorem dL_persons_101 : decode cL_persons 101 = .ok (.iconst 1, 1) := by decide +kernel
theorem dL_persons_102 : decode cL_persons 102 = .ok (.iadd, 1) := by decide +kernel
theorem dL_persons_103 : decode cL_persons 103 = .ok (.iastore, 1) := by decide +kernel
theorem dL_persons_104 : decode cL_persons 104 = .ok (.iinc 11 1, 3) := by decide +kernel
theorem dL_persons_107 : decode cL_persons 107 = .ok (.iinc 14 1, 3) := by decide +kernel
theorem dL_persons_110 : decode cL_persons 110 = .ok (.goto (-60), 3) := by decide +kernel
theorem dL_persons_113 : decode cL_persons 113 = .ok (.iinc 13 1, 3) := by decide +kernel
theorem dL_persons_116 : decode cL_persons 116 = .ok (.goto (-77), 3) := by decide +kernel
theorem dL_persons_119 : decode cL_persons 119 = .ok (.iinc 12 1, 3) := by decide +kernel
theorem dL_persons_122 : decode cL_persons 122 = .ok (.goto (-93), 3) := by decide +kernel
theorem dL_persons_125 : decode cL_persons 125 = .ok (.aload_n 3, 1) := by decide +kernel
theorem dL_persons_126 : decode cL_persons 126 = .ok (.iconst 1, 1) := by decide +kernel
theorem dL_persons_127 : decode cL_persons 127 = .ok (.dup2, 1) := by decide +kernel
theorem dL_persons_128 : decode cL_persons 128 = .ok (.iaload, 1) := by decide +kernel
theorem dL_persons_129 : decode cL_persons 129 = .ok (.iload 10, 2) := by decide +kernel
theorem dL_persons_131 : decode cL_persons 131 = .ok (.iadd, 1) := by decide +kernel
theorem dL_persons_132 : decode cL_persons 132 = .ok (.iastore, 1) := by decide +kernel
theorem dL_persons_133 : decode cL_persons 133 = .ok (.aload_n 3, 1) := by decide +kernel
theorem dL_persons_134 : decode cL_persons 134 = .ok (.iconst 2, 1) := by decide +kernel
theorem dL_persons_135 : decode cL_persons 135 = .ok (.dup2, 1) := by decide +kernel
theorem dL_persons_136 : decode cL_persons 136 = .ok (.iaload, 1) := by decide +kernel
theorem dL_persons_137 : decode cL_persons 137 = .ok (.iload 11, 2) := by decide +kernel
theorem dL_persons_139 : decode cL_persons 139 = .ok (.iadd, 1) := by decide +kernel
theorem dL_persons_140 : decode cL_persons 140 = .ok (.iastore, 1) := by decide +kernel
theorem dL_persons_141 : decode cL_persons 141 = .ok (.aload_n 3, 1) := by decide +kernel
theorem dL_persons_142 : decode cL_persons 142 = .ok (.iconst 3, 1) := by decide +kernel
theorem dL_persons_143 : decode cL_persons 143 = .ok (.iaload, 1) := by decide +kernel
theorem dL_persons_144 : decode cL_persons 144 = .ok (.bipush 6, 2) := by decide +kernel
theorem dL_persons_146 : decode cL_persons 146 = .ok (.if_icmp .ge 10, 3) := by decide +kernel
theorem dL_persons_149 : decode cL_persons 149 = .ok (.aload_n 3, 1) := by decide +kernel
theorem dL_persons_150 : decode cL_persons 150 = .ok (.iconst 3, 1) := by decide +kernel
theorem dL_persons_151 : decode cL_persons 151 = .ok (.dup2, 1) := by decide +kernel
theorem dL_persons_152 : decode cL_persons 152 = .ok (.iaload, 1) := by decide +kernel
theorem dL_persons_153 : decode cL_persons 153 = .ok (.iconst 1, 1) := by decide +kernel
theorem dL_persons_154 : decode cL_persons 154 = .ok (.iadd, 1) := by decide +kernel
theorem dL_persons_155 : decode cL_persons 155 = .ok (.iastore, 1) := by decide +kernel
theorem dL_persons_156 : decode cL_persons 156 = .ok (.aload_n 0, 1) := by decide +kernel
theorem dL_persons_157 : decode cL_persons 157 = .ok (.iload 10, 2) := by decide +kernel
theorem dL_persons_159 : decode cL_persons 159 = .ok (.invokevirtual 82, 3) := by decide +kernel
theorem dL_persons_162 : decode cL_persons 162 = .ok (.iload 11, 2) := by decide +kernel
theorem dL_persons_164 : decode cL_persons 164 = .ok (.if_icmp .ne 7, 3) := by decide +kernel
theorem dL_persons_167 : decode cL_persons 167 = .ok (.iconst 1, 1) := by decide +kernel
theorem dL_persons_168 : decode cL_persons 168 = .ok (.goto 4, 3) := by decide +kernel
theorem dL_persons_171 : decode cL_persons 171 = .ok (.iconst 0, 1) := by decide +kernel
theorem dL_persons_172 : decode cL_persons 172 = .ok (.ireturn, 1) := by decide +kernel
theorem dL_persons_173 : decode cL_persons 173 = .ok (.aload_n 3, 1) := by decide +kernel
theorem dL_persons_174 : decode cL_persons 174 = .ok (.iconst 0, 1) := by decide +kernel
theorem dL_persons_175 : decode cL_persons 175 = .ok (.iaload, 1) := by decide +kernel
theorem dL_persons_176 : decode cL_persons 176 = .ok (.ifCond .ne 5, 3) := by decide +kernel
theorem dL_persons_179 : decode cL_persons 179 = .ok (.iconst 1, 1) := by decide +kernel
theorem dL_persons_180 : decode cL_persons 180 = .ok (.ireturn, 1) := by decide +kernel
theorem dL_persons_181 : decode cL_persons 181 = .ok (.iload_n 2, 1) := by decide +kernel
theorem dL_persons_182 : decode cL_persons 182 = .ok (.aload_n 3, 1) := by decide +kernel
theorem dL_persons_183 : decode cL_persons 183 = .ok (.iconst 0, 1) := by decide +kernel
theorem dL_persons_184 : decode cL_persons 184 = .ok (.iaload, 1) := by decide +kernel
theorem dL_persons_185 : decode cL_persons 185 = .ok (.invokestatic 36, 3) := by decide +kernel
theorem dL_persons_188 : decode cL_persons 188 = .ok (.istore 10, 2) := by decide +kernel
theorem dL_persons_190 : decode cL_persons 190 = .ok (.iload_n 2, 1) := by decide +kernel
theorem dL_persons_191 : decode cL_persons 191 = .ok (.iconst 3, 1) := by decide +kernel
theorem dL_persons_192 : decode cL_persons 192 = .ok (.ishr, 1) := by decide +kernel
theorem dL_persons_193 : decode cL_persons 193 = .ok (.sipush 150, 3) := by decide +kernel
theorem dL_persons_196 : decode cL_persons 196 = .ok (.invokestatic 36, 3) := by decide +kernel
theorem dL_persons_199 : decode cL_persons 199 = .ok (.istore 11, 2) := by decide +kernel
theorem dL_persons_201 : decode cL_persons 201 = .ok (.aload 6, 2) := by decide +kernel
theorem dL_persons_203 : decode cL_persons 203 = .ok (.iconst 3, 1) := by decide +kernel
theorem dL_persons_204 : decode cL_persons 204 = .ok (.iload 10, 2) := by decide +kernel
theorem dL_persons_206 : decode cL_persons 206 = .ok (.iload 11, 2) := by decide +kernel
theorem dL_persons_208 : decode cL_persons 208 = .ok (.invokestatic 14, 3) := by decide +kernel
theorem dL_persons_211 : decode cL_persons 211 = .ok (.ifCond .ne 16, 3) := by decide +kernel
theorem dL_persons_214 : decode cL_persons 214 = .ok (.aload 7, 2) := by decide +kernel
theorem dL_persons_216 : decode cL_persons 216 = .ok (.iconst 3, 1) := by decide +kernel
theorem dL_persons_217 : decode cL_persons 217 = .ok (.iload 10, 2) := by decide +kernel
theorem dL_persons_219 : decode cL_persons 219 = .ok (.iload 11, 2) := by decide +kernel
theorem dL_persons_221 : decode cL_persons 221 = .ok (.invokestatic 14, 3) := by decide +kernel
theorem dL_persons_224 : decode cL_persons 224 = .ok (.ifCond .eq 7, 3) := by decide +kernel
theorem dL_persons_227 : decode cL_persons 227 = .ok (.iconst 1, 1) := by decide +kernel
theorem dL_persons_228 : decode cL_persons 228 = .ok (.goto 4, 3) := by decide +kernel
theorem dL_persons_231 : decode cL_persons 231 = .ok (.iconst 0, 1) := by decide +kernel
theorem dL_persons_232 : decode cL_persons 232 = .ok (.istore 12, 2) := by decide +kernel
theorem dL_persons_234 : decode cL_persons 234 = .ok (.aload_n 3, 1) := by decide +kernel
theorem dL_persons_235 : decode cL_persons 235 = .ok (.aload 4, 2) := by decide +kernel
theorem dL_persons_237 : decode cL_persons 237 = .ok (.aload 5, 2) := by decide +kernel
theorem dL_persons_239 : decode cL_persons 239 = .ok (.aload 6, 2) := by decide +kernel
theorem dL_persons_241 : decode cL_persons 241 = .ok (.aload 7, 2) := by decide +kernel
theorem dL_persons_243 : decode cL_persons 243 = .ok (.aload 8, 2) := by decide +kernel
theorem dL_persons_245 : decode cL_persons 245 = .ok (.iload 11, 2) := by decide +kernel
theorem dL_persons_247 : decode cL_persons 247 = .ok (.iload 10, 2) := by decide +kernel
theorem dL_persons_249 : decode cL_persons 249 = .ok (.invokestatic 24, 3) := by decide +kernel
theorem dL_persons_252 : decode cL_persons 252 = .ok (.ifCond .le 7, 3) := by decide +kernel
theorem dL_persons_255 : decode cL_persons 255 = .ok (.iconst 1, 1) := by decide +kernel
theorem dL_persons_256 : decode cL_persons 256 = .ok (.goto 4, 3) := by decide +kernel
theorem dL_persons_259 : decode cL_persons 259 = .ok (.iconst 0, 1) := by decide +kernel
theorem dL_persons_260 : decode cL_persons 260 = .ok (.istore 13, 2) := by decide +kernel
theorem dL_persons_262 : decode cL_persons 262 = .ok (.iload 9, 2) := by decide +kernel
theorem dL_persons_264 : decode cL_persons 264 = .ok (.iconst 5, 1) := by decide +kernel
theorem dL_persons_265 : decode cL_persons 265 = .ok (.if_icmp .ge 107, 3) := by decide +kernel
theorem dL_persons_268 : decode cL_persons 268 = .ok (.aload 4, 2) := by decide +kernel
theorem dL_persons_270 : decode cL_persons 270 = .ok (.bipush 6, 2) := by decide +kernel
theorem dL_persons_272 : decode cL_persons 272 = .ok (.iload 10, 2) := by decide +kernel
theorem dL_persons_274 : decode cL_persons 274 = .ok (.imul, 1) := by decide +kernel
theorem dL_persons_275 : decode cL_persons 275 = .ok (.iaload, 1) := by decide +kernel
theorem dL_persons_276 : decode cL_persons 276 = .ok (.ifCond .ne 5, 3) := by decide +kernel
theorem dL_persons_279 : decode cL_persons 279 = .ok (.iconst 1, 1) := by decide +kernel
theorem dL_persons_280 : decode cL_persons 280 = .ok (.ireturn, 1) := by decide +kernel
theorem dL_persons_281 : decode cL_persons 281 = .ok (.iload 9, 2) := by decide +kernel
theorem dL_persons_283 : decode cL_persons 283 = .ok (.iconst 4, 1) := by decide +kernel
theorem dL_persons_284 : decode cL_persons 284 = .ok (.if_icmp .ge 7, 3) := by decide +kernel
theorem dL_persons_287 : decode cL_persons 287 = .ok (.iconst 1, 1) := by decide +kernel
theorem dL_persons_288 : decode cL_persons 288 = .ok (.goto 4, 3) := by decide +kernel
theorem dL_persons_291 : decode cL_persons 291 = .ok (.iconst 0, 1) := by decide +kernel
theorem dL_persons_292 : decode cL_persons 292 = .ok (.istore 14, 2) := by decide +kernel
theorem dL_persons_294 : decode cL_persons 294 = .ok (.aload 6, 2) := by decide +kernel
theorem dL_persons_296 : decode cL_persons 296 = .ok (.iconst 3, 1) := by decide +kernel
theorem dL_persons_297 : decode cL_persons 297 = .ok (.iload 10, 2) := by decide +kernel
theorem dL_persons_299 : decode cL_persons 299 = .ok (.iload 11, 2) := by decide +kernel
theorem dL_persons_301 : decode cL_persons 301 = .ok (.iload 14, 2) := by decide +kernel
theorem dL_persons_303 : decode cL_persons 303 = .ok (.invokestatic 32, 3) := by decide +kernel
theorem dL_persons_306 : decode cL_persons 306 = .ok (.aload 7, 2) := by decide +kernel
theorem dL_persons_308 : decode cL_persons 308 = .ok (.iconst 3, 1) := by decide +kernel
theorem dL_persons_309 : decode cL_persons 309 = .ok (.iload 10, 2) := by decide +kernel
theorem dL_persons_311 : decode cL_persons 311 = .ok (.iload 11, 2) := by decide +kernel
theorem dL_persons_313 : decode cL_persons 313 = .ok (.iload 14, 2) := by decide +kernel
theorem dL_persons_315 : decode cL_persons 315 = .ok (.ifCond .ne 7, 3) := by decide +kernel
theorem dL_persons_318 : decode cL_persons 318 = .ok (.iconst 1, 1) := by decide +kernel
theorem dL_persons_319 : decode cL_persons 319 = .ok (.goto 4, 3) := by decide +kernel
theorem dL_persons_322 : decode cL_persons 322 = .ok (.iconst 0, 1) := by decide +kernel
theorem dL_persons_323 : decode cL_persons 323 = .ok (.invokestatic 32, 3) := by decide +kernel
theorem dL_persons_326 : decode cL_persons 326 = .ok (.aload_n 3, 1) := by decide +kernel
theorem dL_persons_327 : decode cL_persons 327 = .ok (.iconst 3, 1) := by decide +kernel
theorem dL_persons_328 : decode cL_persons 328 = .ok (.iaload, 1) := by decide +kernel
theorem dL_persons_329 : decode cL_persons 329 = .ok (.bipush 6, 2) := by decide +kernel
theorem dL_persons_331 : decode cL_persons 331 = .ok (.if_icmp .ge 10, 3) := by decide +kernel
theorem dL_persons_334 : decode cL_persons 334 = .ok (.aload_n 3, 1) := by decide +kernel
theorem dL_persons_335 : decode cL_persons 335 = .ok (.iconst 3, 1) := by decide +kernel
theorem dL_persons_336 : decode cL_persons 336 = .ok (.dup2, 1) := by decide +kernel
theorem dL_persons_337 : decode cL_persons 337 = .ok (.iaload, 1) := by decide +kernel
theorem dL_persons_338 : decode cL_persons 338 = .ok (.iconst 1, 1) := by decide +kernel
theorem dL_persons_339 : decode cL_persons 339 = .ok (.iadd, 1) := by decide +kernel
theorem dL_persons_340 : decode cL_persons 340 = .ok (.iastore, 1) := by decide +kernel
theorem dL_persons_341 : decode cL_persons 341 = .ok (.aload_n 0, 1) := by decide +kernel
theorem dL_persons_342 : decode cL_persons 342 = .ok (.iload 11, 2) := by decide +kernel
theorem dL_persons_344 : decode cL_persons 344 = .ok (.iload 10, 2) := by decide +kernel
theorem dL_persons_346 : decode cL_persons 346 = .ok (.iload 14, 2) := by decide +kernel
theorem dL_persons_348 : decode cL_persons 348 = .ok (.invokevirtual 85, 3) := by decide +kernel
theorem dL_persons_351 : decode cL_persons 351 = .ok (.iload 13, 2) := by decide +kernel
theorem dL_persons_353 : decode cL_persons 353 = .ok (.iload 14, 2) := by decide +kernel
theorem dL_persons_355 : decode cL_persons 355 = .ok (.if_icmp .ne 7, 3) := by decide +kernel
theorem dL_persons_358 : decode cL_persons 358 = .ok (.iconst 0, 1) := by decide +kernel
theorem dL_persons_359 : decode cL_persons 359 = .ok (.goto 4, 3) := by decide +kernel
theorem dL_persons_362 : decode cL_persons 362 = .ok (.iconst 1, 1) := by decide +kernel
theorem dL_persons_363 : decode cL_persons 363 = .ok (.if_icmp .ne 7, 3) := by decide +kernel
theorem dL_persons_366 : decode cL_persons 366 = .ok (.iconst 1, 1) := by decide +kernel
theorem dL_persons_367 : decode cL_persons 367 = .ok (.goto 4, 3) := by decide +kernel
theorem dL_persons_370 : decode cL_persons 370 = .ok (.iconst 0, 1) := by decide +kernel
theorem dL_persons_371 : decode cL_persons 371 = .ok (.ireturn, 1) := by decide +kernel
theorem dL_persons_372 : decode cL_persons 372 = .ok (.iload 12, 2) := by decide +kernel
theorem dL_persons_374 : decode cL_persons 374 = .ok (.ifCond .ne 5, 3) := by decide +kernel
theorem dL_persons_377 : decode cL_persons 377 = .ok (.iconst 1, 1) := by decide +kernel
theorem dL_persons_378 : decode cL_persons 378 = .ok (.ireturn, 1) := by decide +kernel
theorem dL_persons_379 : decode cL_persons 379 = .ok (.aload 6, 2) := by decide +kernel
theorem dL_persons_381 : decode cL_persons 381 = .ok (.iconst 3, 1) := by decide +kernel
theorem dL_persons_382 : decode cL_persons 382 = .ok (.iload 10, 2) := by decide +kernel
theorem dL_persons_384 : decode cL_persons 384 = .ok (.iload 11, 2) := by decide +kernel
theorem dL_persons_386 : decode cL_persons 386 = .ok (.iconst 0, 1) := by decide +kernel
theorem dL_persons_387 : decode cL_persons 387 = .ok (.invokestatic 32, 3) := by decide +kernel
theorem dL_persons_390 : decode cL_persons 390 = .ok (.aload 7, 2) := by decide +kernel
theorem dL_persons_392 : decode cL_persons 392 = .ok (.iconst 3, 1) := by decide +kernel
theorem dL_persons_393 : decode cL_persons 393 = .ok (.iload 10, 2) := by decide +kernel
theorem dL_persons_395 : decode cL_persons 395 = .ok (.iload 11, 2) := by decide +kernel
theorem dL_persons_397 : decode cL_persons 397 = .ok (.iconst 0, 1) := by decide +kernel
theorem dL_persons_398 : decode cL_persons 398 = .ok (.invokestatic 32, 3) := by decide +kernel
theorem dL_persons_401 : decode cL_persons 401 = .ok (.aload_n 3, 1) := by decide +kernel
theorem dL_persons_402 : decode cL_persons 402 = .ok (.iconst 3, 1) := by decide +kernel
theorem dL_persons_403 : decode cL_persons 403 = .ok (.iaload, 1) := by decide +kernel
theorem dL_persons_404 : decode cL_persons 404 = .ok (.bipush 6, 2) := by decide +kernel
theorem dL_persons_406 : decode cL_persons 406 = .ok (.if_icmp .ge 10, 3) := by decide +kernel
theorem dL_persons_409 : decode cL_persons 409 = .ok (.aload_n 3, 1) := by decide +kernel
theorem dL_persons_410 : decode cL_persons 410 = .ok (.iconst 3, 1) := by decide +kernel
theorem dL_persons_411 : decode cL_persons 411 = .ok (.dup2, 1) := by decide +kernel
theorem dL_persons_412 : decode cL_persons 412 = .ok (.iaload, 1) := by decide +kernel
theorem dL_persons_413 : decode cL_persons 413 = .ok (.iconst 1, 1) := by decide +kernel
theorem dL_persons_414 : decode cL_persons 414 = .ok (.iadd, 1) := by decide +kernel
theorem dL_persons_415 : decode cL_persons 415 = .ok (.iastore, 1) := by decide +kernel
theorem dL_persons_416 : decode cL_persons 416 = .ok (.aload_n 0, 1) := by decide +kernel
theorem dL_persons_417 : decode cL_persons 417 = .ok (.iload 11, 2) := by decide +kernel
theorem dL_persons_419 : decode cL_persons 419 = .ok (.iload 10, 2) := by decide +kernel
theorem dL_persons_421 : decode cL_persons 421 = .ok (.invokevirtual 88, 3) := by decide +kernel
theorem dL_persons_424 : decode cL_persons 424 = .ok (.aload_n 3, 1) := by decide +kernel
theorem dL_persons_425 : decode cL_persons 425 = .ok (.aload 4, 2) := by decide +kernel
theorem dL_persons_427 : decode cL_persons 427 = .ok (.aload 5, 2) := by decide +kernel
theorem dL_persons_429 : decode cL_persons 429 = .ok (.aload 6, 2) := by decide +kernel
theorem dL_persons_431 : decode cL_persons 431 = .ok (.aload 7, 2) := by decide +kernel
theorem dL_persons_433 : decode cL_persons 433 = .ok (.aload 8, 2) := by decide +kernel
theorem dL_persons_435 : decode cL_persons 435 = .ok (.iload 11, 2) := by decide +kernel
theorem dL_persons_437 : decode cL_persons 437 = .ok (.iload 10, 2) := by decide +kernel
theorem dL_persons_439 : decode cL_persons 439 = .ok (.invokestatic 24, 3) := by decide +kernel
theorem dL_persons_442 : decode cL_persons 442 = .ok (.ifCond .le 7, 3) := by decide +kernel
theorem dL_persons_445 : decode cL_persons 445 = .ok (.iconst 1, 1) := by decide +kernel
theorem dL_persons_446 : decode cL_persons 446 = .ok (.goto 4, 3) := by decide +kernel
theorem dL_persons_449 : decode cL_persons 449 = .ok (.iconst 0, 1) := by decide +kernel
theorem dL_persons_450 : decode cL_persons 450 = .ok (.iload 13, 2) := by decide +kernel
theorem dL_persons_452 : decode cL_persons 452 = .ok (.if_icmp .ne 7, 3) := by decide +kernel
theorem dL_persons_455 : decode cL_persons 455 = .ok (.iconst 0, 1) := by decide +kernel
theorem dL_persons_456 : decode cL_persons 456 = .ok (.goto 4, 3) := by decide +kernel
theorem dL_persons_459 : decode cL_persons 459 = .ok (.iconst 1, 1) := by decide +kernel
theorem dL_persons_460 : decode cL_persons 460 = .ok (.if_icmp .ne 7, 3) := by decide +kernel
theorem dL_persons_463 : decode cL_persons 463 = .ok (.iconst 1, 1) := by decide +kernel
theorem dL_persons_464 : decode cL_persons 464 = .ok (.goto 4, 3) := by decide +kernel
theorem dL_persons_467 : decode cL_persons 467 = .ok (.iconst 0, 1) := by decide +kernel
theorem dL_persons_468 : decode cL_persons 468 = .ok (.ireturn, 1) := by decide +kernel
set_option maxRecDepth 20000 in
theorem ggL_agree_L_has : GoodIn wsL_agree wsL_has := goodIn_r _ [4] (by decide +kernel) (by decide +kernel)
set_option maxRecDepth 20000 in
theorem gL_agree_L_has : GoodIn wsL_agree (va_wsS RL 14 yL_has wsL_has) := goodIn_app (goodIn_of _ (by decide +kernel)) ggL_agree_L_has
set_option maxRecDepth 20000 in
theorem ggL_agree_X4_bread : GoodIn wsL_agree wsX4_bread := goodIn_ca (goodIn_ca (goodIn_r _ [9, 10, 11, 12, 13, 14, 15, 8, 16, 17, 18, 19, 20, 21, 22, 23, 24, 25, 26, 27, 28, 29, 30, 31, 32, 33, 34, 35, 36, 37, 38, 39, 40, 41, 42, 43, 44, 45, 46, 47, 48, 49, 50, 51, 52, 53, 54, 55, 56, 57, 58, 59, 60, 61, 62, 63, 64, 65, 66, 67, 68, 69, 70, 71, 72, 73, 74, 75, 76, 77, 78, 79, 80, 172, 173, 174, 175, 176, 177, 178, 179, 180, 181, 182, 183, 184, 185, 186, 187, 188, 189, 190] (by decide +kernel) (by decide +kernel)) (goodIn_sub (fun _ h => List.mem_cons_of_mem _ (List.mem_append_left _ (List.mem_append_right _ h))) (by decide +kernel))) (goodIn_sub (fun _ h => List.mem_cons_of_mem _ (List.mem_append_right _ h)) (by decide +kernel))
set_option maxRecDepth 20000 in
theorem gL_agree_X4_bread : GoodIn wsL_agree (wsV RL 66 RX4 yX4_bread wsX4_bread) := goodIn_app (goodIn_of _ (by decide +kernel)) ggL_agree_X4_bread
set_option maxRecDepth 20000 in
theorem ggL_agree_L_eaters : GoodIn wsL_agree wsL_eaters := goodIn_r _ [83, 84, 85, 3, 86, 1, 2, 4, 87, 88, 89, 90, 91, 92, 93] (by decide +kernel) (by decide +kernel)
set_option maxRecDepth 20000 in
theorem gL_agree_L_eaters : GoodIn wsL_agree (va_wsS RL 52 yL_eaters wsL_eaters) := goodIn_app (goodIn_of _ (by decide +kernel)) ggL_agree_L_eaters
set_option maxRecDepth 20000 in
theorem ggL_agree_L_at : GoodIn wsL_agree wsL_at := goodIn_r _ [96] (by decide +kernel) (by decide +kernel)
set_option maxRecDepth 20000 in
theorem gL_agree_L_at : GoodIn wsL_agree (va_wsS RL 36 yL_at wsL_at) := goodIn_app (goodIn_of _ (by decide +kernel)) ggL_agree_L_at
set_option maxRecDepth 20000 in
theorem ggL_agree_X4_eats : GoodIn wsL_agree wsX4_eats := goodIn_ca (goodIn_r _ [100, 12, 101, 102, 8, 103, 17, 18, 13, 14, 15, 16, 19, 20, 21, 22, 23, 24, 104, 38, 39, 40, 30, 41, 42, 43, 44, 105, 54, 55, 56, 29, 36, 35, 32, 33, 57, 58, 59, 60, 61, 62, 63, 64, 65, 66, 67, 68, 31, 172, 173, 174, 175, 176, 177, 178, 179, 180, 181, 182, 183, 184, 185, 186, 187, 188, 189, 190] (by decide +kernel) (by decide +kernel)) (goodIn_sub (fun _ h => List.mem_cons_of_mem _ (List.mem_append_right _ h)) (by decide +kernel))
set_option maxRecDepth 20000 in
theorem gL_agree_X4_eats : GoodIn wsL_agree (wsV RL 91 RX4 yX4_eats wsX4_eats) := goodIn_app (goodIn_of _ (by decide +kernel)) ggL_agree_X4_eats
set_option maxRecDepth 20000 in
theorem ggL_agree_L_eats : GoodIn wsL_agree wsL_eats := goodIn_r _ [86, 1, 2, 3, 4, 87, 88, 89, 90, 91, 92, 93] (by decide +kernel) (by decide +kernel)
set_option maxRecDepth 20000 in
theorem gL_agree_L_eats : GoodIn wsL_agree (va_wsS RL 24 yL_eats wsL_eats) := goodIn_app (goodIn_of _ (by decide +kernel)) ggL_agree_L_eats
set_option maxRecDepth 20000 in
theorem ggL_agree_X4_count : GoodIn wsL_agree wsX4_count := goodIn_ca (goodIn_r _ [109, 10, 11, 110, 111, 8, 112, 113, 114, 115, 116, 117, 118, 12, 119, 120, 43, 44, 121, 122, 123, 22, 124, 68, 125, 126, 127, 128, 24, 29, 129, 130, 131, 132, 133, 134, 135, 136, 137, 138, 139, 140, 141, 142, 143, 144, 145, 37, 38, 39, 40, 30, 41, 42, 53, 54, 55, 56, 36, 35, 32, 33, 57, 58, 59, 60, 61, 62, 63, 64, 65, 66, 67, 31, 146, 147, 148, 149, 150, 151, 152, 153, 154, 155, 156, 157, 158, 159, 160, 161, 162, 163, 164, 165, 172, 173, 174, 175, 191, 192, 193, 176, 177, 178, 179, 180, 181, 182, 183, 184, 185, 186, 187, 188, 189, 190] (by decide +kernel) (by decide +kernel)) (goodIn_sub (fun _ h => List.mem_cons_of_mem _ (List.mem_append_left _ (List.mem_append_right _ h))) (by decide +kernel))
set_option maxRecDepth 20000 in
theorem gL_agree_X4_count : GoodIn wsL_agree (wsV RL 93 RX4 yX4_count wsX4_count) := goodIn_app (goodIn_of _ (by decide +kernel)) ggL_agree_X4_count
set_option maxRecDepth 20000 in
theorem ggL_agree_L_room : GoodIn wsL_agree wsL_room := goodIn_r _ [168, 169, 170, 3, 171, 1, 2, 4] (by decide +kernel) (by decide +kernel)
set_option maxRecDepth 20000 in
theorem gL_agree_L_room : GoodIn wsL_agree (va_wsS RL 45 yL_room wsL_room) := goodIn_app (goodIn_of _ (by decide +kernel)) ggL_agree_L_room
