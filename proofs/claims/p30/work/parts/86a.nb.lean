theorem dL_breads_0 : decode cL_breads 0 = .ok (.iload_n 1, 1) := by decide +kernel
theorem dL_breads_1 : decode cL_breads 1 = .ok (.bipush 10, 2) := by decide +kernel
theorem dL_breads_3 : decode cL_breads 3 = .ok (.invokestatic 36, 3) := by decide +kernel
theorem dL_breads_6 : decode cL_breads 6 = .ok (.istore 9, 2) := by decide +kernel
theorem dL_breads_8 : decode cL_breads 8 = .ok (.aload_n 3, 1) := by decide +kernel
theorem dL_breads_9 : decode cL_breads 9 = .ok (.iconst 0, 1) := by decide +kernel
theorem dL_breads_10 : decode cL_breads 10 = .ok (.iaload, 1) := by decide +kernel
theorem dL_breads_11 : decode cL_breads 11 = .ok (.ifCond .eq 15, 3) := by decide +kernel
theorem dL_breads_14 : decode cL_breads 14 = .ok (.iload 9, 2) := by decide +kernel
theorem dL_breads_16 : decode cL_breads 16 = .ok (.ifCond .ne 152, 3) := by decide +kernel
theorem dL_breads_19 : decode cL_breads 19 = .ok (.aload_n 3, 1) := by decide +kernel
theorem dL_breads_20 : decode cL_breads 20 = .ok (.iconst 0, 1) := by decide +kernel
theorem dL_breads_21 : decode cL_breads 21 = .ok (.iaload, 1) := by decide +kernel
theorem dL_breads_22 : decode cL_breads 22 = .ok (.iconst 5, 1) := by decide +kernel
theorem dL_breads_23 : decode cL_breads 23 = .ok (.if_icmp .ge 145, 3) := by decide +kernel
theorem dL_breads_26 : decode cL_breads 26 = .ok (.aload_n 3, 1) := by decide +kernel
theorem dL_breads_27 : decode cL_breads 27 = .ok (.iconst 0, 1) := by decide +kernel
theorem dL_breads_28 : decode cL_breads 28 = .ok (.dup2, 1) := by decide +kernel
theorem dL_breads_29 : decode cL_breads 29 = .ok (.iaload, 1) := by decide +kernel
theorem dL_breads_30 : decode cL_breads 30 = .ok (.dup_x2, 1) := by decide +kernel
theorem dL_breads_31 : decode cL_breads 31 = .ok (.iconst 1, 1) := by decide +kernel
theorem dL_breads_32 : decode cL_breads 32 = .ok (.iadd, 1) := by decide +kernel
theorem dL_breads_33 : decode cL_breads 33 = .ok (.iastore, 1) := by decide +kernel
theorem dL_breads_34 : decode cL_breads 34 = .ok (.istore 10, 2) := by decide +kernel
theorem dL_breads_36 : decode cL_breads 36 = .ok (.aload 4, 2) := by decide +kernel
theorem dL_breads_38 : decode cL_breads 38 = .ok (.bipush 6, 2) := by decide +kernel
theorem dL_breads_40 : decode cL_breads 40 = .ok (.iload 10, 2) := by decide +kernel
theorem dL_breads_42 : decode cL_breads 42 = .ok (.imul, 1) := by decide +kernel
theorem dL_breads_43 : decode cL_breads 43 = .ok (.iconst 1, 1) := by decide +kernel
theorem dL_breads_44 : decode cL_breads 44 = .ok (.iastore, 1) := by decide +kernel
theorem dL_breads_45 : decode cL_breads 45 = .ok (.aload 4, 2) := by decide +kernel
theorem dL_breads_47 : decode cL_breads 47 = .ok (.bipush 6, 2) := by decide +kernel
theorem dL_breads_49 : decode cL_breads 49 = .ok (.iload 10, 2) := by decide +kernel
theorem dL_breads_51 : decode cL_breads 51 = .ok (.imul, 1) := by decide +kernel
theorem dL_breads_52 : decode cL_breads 52 = .ok (.iconst 1, 1) := by decide +kernel
theorem dL_breads_53 : decode cL_breads 53 = .ok (.iadd, 1) := by decide +kernel
theorem dL_breads_54 : decode cL_breads 54 = .ok (.iload_n 2, 1) := by decide +kernel
theorem dL_breads_55 : decode cL_breads 55 = .ok (.iconst 4, 1) := by decide +kernel
theorem dL_breads_56 : decode cL_breads 56 = .ok (.invokestatic 36, 3) := by decide +kernel
theorem dL_breads_59 : decode cL_breads 59 = .ok (.iconst 1, 1) := by decide +kernel
theorem dL_breads_60 : decode cL_breads 60 = .ok (.isub, 1) := by decide +kernel
theorem dL_breads_61 : decode cL_breads 61 = .ok (.iastore, 1) := by decide +kernel
theorem dL_breads_62 : decode cL_breads 62 = .ok (.aload 4, 2) := by decide +kernel
theorem dL_breads_64 : decode cL_breads 64 = .ok (.bipush 6, 2) := by decide +kernel
theorem dL_breads_66 : decode cL_breads 66 = .ok (.iload 10, 2) := by decide +kernel
theorem dL_breads_68 : decode cL_breads 68 = .ok (.imul, 1) := by decide +kernel
theorem dL_breads_69 : decode cL_breads 69 = .ok (.iconst 2, 1) := by decide +kernel
theorem dL_breads_70 : decode cL_breads 70 = .ok (.iadd, 1) := by decide +kernel
theorem dL_breads_71 : decode cL_breads 71 = .ok (.iload_n 2, 1) := by decide +kernel
theorem dL_breads_72 : decode cL_breads 72 = .ok (.iconst 2, 1) := by decide +kernel
theorem dL_breads_73 : decode cL_breads 73 = .ok (.ishr, 1) := by decide +kernel
theorem dL_breads_74 : decode cL_breads 74 = .ok (.sipush 10000, 3) := by decide +kernel
theorem dL_breads_77 : decode cL_breads 77 = .ok (.invokestatic 36, 3) := by decide +kernel
theorem dL_breads_80 : decode cL_breads 80 = .ok (.iastore, 1) := by decide +kernel
theorem dL_breads_81 : decode cL_breads 81 = .ok (.aload 4, 2) := by decide +kernel
theorem dL_breads_83 : decode cL_breads 83 = .ok (.bipush 6, 2) := by decide +kernel
theorem dL_breads_85 : decode cL_breads 85 = .ok (.iload 10, 2) := by decide +kernel
theorem dL_breads_87 : decode cL_breads 87 = .ok (.imul, 1) := by decide +kernel
theorem dL_breads_88 : decode cL_breads 88 = .ok (.iconst 4, 1) := by decide +kernel
theorem dL_breads_89 : decode cL_breads 89 = .ok (.iadd, 1) := by decide +kernel
theorem dL_breads_90 : decode cL_breads 90 = .ok (.iload_n 2, 1) := by decide +kernel
theorem dL_breads_91 : decode cL_breads 91 = .ok (.bipush 16, 2) := by decide +kernel
theorem dL_breads_93 : decode cL_breads 93 = .ok (.ishr, 1) := by decide +kernel
theorem dL_breads_94 : decode cL_breads 94 = .ok (.iconst 2, 1) := by decide +kernel
theorem dL_breads_95 : decode cL_breads 95 = .ok (.invokestatic 36, 3) := by decide +kernel
theorem dL_breads_98 : decode cL_breads 98 = .ok (.iastore, 1) := by decide +kernel
theorem dL_breads_99 : decode cL_breads 99 = .ok (.aload_n 3, 1) := by decide +kernel
theorem dL_breads_100 : decode cL_breads 100 = .ok (.iconst 3, 1) := by decide +kernel
theorem dL_breads_101 : decode cL_breads 101 = .ok (.iaload, 1) := by decide +kernel
theorem dL_breads_102 : decode cL_breads 102 = .ok (.bipush 6, 2) := by decide +kernel
theorem dL_breads_104 : decode cL_breads 104 = .ok (.if_icmp .ge 10, 3) := by decide +kernel
theorem dL_breads_107 : decode cL_breads 107 = .ok (.aload_n 3, 1) := by decide +kernel
theorem dL_breads_108 : decode cL_breads 108 = .ok (.iconst 3, 1) := by decide +kernel
theorem dL_breads_109 : decode cL_breads 109 = .ok (.dup2, 1) := by decide +kernel
theorem dL_breads_110 : decode cL_breads 110 = .ok (.iaload, 1) := by decide +kernel
theorem dL_breads_111 : decode cL_breads 111 = .ok (.iconst 1, 1) := by decide +kernel
theorem dL_breads_112 : decode cL_breads 112 = .ok (.iadd, 1) := by decide +kernel
theorem dL_breads_113 : decode cL_breads 113 = .ok (.iastore, 1) := by decide +kernel
theorem dL_breads_114 : decode cL_breads 114 = .ok (.aload_n 0, 1) := by decide +kernel
theorem dL_breads_115 : decode cL_breads 115 = .ok (.aload 4, 2) := by decide +kernel
theorem dL_breads_117 : decode cL_breads 117 = .ok (.bipush 6, 2) := by decide +kernel
theorem dL_breads_119 : decode cL_breads 119 = .ok (.iload 10, 2) := by decide +kernel
theorem dL_breads_121 : decode cL_breads 121 = .ok (.imul, 1) := by decide +kernel
theorem dL_breads_122 : decode cL_breads 122 = .ok (.iconst 1, 1) := by decide +kernel
theorem dL_breads_123 : decode cL_breads 123 = .ok (.iadd, 1) := by decide +kernel
theorem dL_breads_124 : decode cL_breads 124 = .ok (.iaload, 1) := by decide +kernel
theorem dL_breads_125 : decode cL_breads 125 = .ok (.aload 4, 2) := by decide +kernel
theorem dL_breads_127 : decode cL_breads 127 = .ok (.bipush 6, 2) := by decide +kernel
theorem dL_breads_129 : decode cL_breads 129 = .ok (.iload 10, 2) := by decide +kernel
theorem dL_breads_131 : decode cL_breads 131 = .ok (.imul, 1) := by decide +kernel
theorem dL_breads_132 : decode cL_breads 132 = .ok (.iconst 2, 1) := by decide +kernel
theorem dL_breads_133 : decode cL_breads 133 = .ok (.iadd, 1) := by decide +kernel
theorem dL_breads_134 : decode cL_breads 134 = .ok (.iaload, 1) := by decide +kernel
theorem dL_breads_135 : decode cL_breads 135 = .ok (.aload 4, 2) := by decide +kernel
theorem dL_breads_137 : decode cL_breads 137 = .ok (.bipush 6, 2) := by decide +kernel
theorem dL_breads_139 : decode cL_breads 139 = .ok (.iload 10, 2) := by decide +kernel
theorem dL_breads_141 : decode cL_breads 141 = .ok (.imul, 1) := by decide +kernel
theorem dL_breads_142 : decode cL_breads 142 = .ok (.iconst 4, 1) := by decide +kernel
theorem dL_breads_143 : decode cL_breads 143 = .ok (.iadd, 1) := by decide +kernel
theorem dL_breads_144 : decode cL_breads 144 = .ok (.iaload, 1) := by decide +kernel
theorem dL_breads_145 : decode cL_breads 145 = .ok (.iconst 1, 1) := by decide +kernel
theorem dL_breads_146 : decode cL_breads 146 = .ok (.if_icmp .ne 7, 3) := by decide +kernel
theorem dL_breads_149 : decode cL_breads 149 = .ok (.iconst 1, 1) := by decide +kernel
theorem dL_breads_150 : decode cL_breads 150 = .ok (.goto 4, 3) := by decide +kernel
theorem dL_breads_153 : decode cL_breads 153 = .ok (.iconst 0, 1) := by decide +kernel
theorem dL_breads_154 : decode cL_breads 154 = .ok (.invokevirtual 39, 3) := by decide +kernel
theorem dL_breads_157 : decode cL_breads 157 = .ok (.iload 10, 2) := by decide +kernel
theorem dL_breads_159 : decode cL_breads 159 = .ok (.if_icmp .ne 7, 3) := by decide +kernel
theorem dL_breads_162 : decode cL_breads 162 = .ok (.iconst 1, 1) := by decide +kernel
theorem dL_breads_163 : decode cL_breads 163 = .ok (.goto 4, 3) := by decide +kernel
theorem dL_breads_166 : decode cL_breads 166 = .ok (.iconst 0, 1) := by decide +kernel
theorem dL_breads_167 : decode cL_breads 167 = .ok (.ireturn, 1) := by decide +kernel
theorem dL_breads_168 : decode cL_breads 168 = .ok (.iload_n 2, 1) := by decide +kernel
theorem dL_breads_169 : decode cL_breads 169 = .ok (.aload_n 3, 1) := by decide +kernel
theorem dL_breads_170 : decode cL_breads 170 = .ok (.iconst 0, 1) := by decide +kernel
theorem dL_breads_171 : decode cL_breads 171 = .ok (.iaload, 1) := by decide +kernel
theorem dL_breads_172 : decode cL_breads 172 = .ok (.invokestatic 36, 3) := by decide +kernel
theorem dL_breads_175 : decode cL_breads 175 = .ok (.istore 10, 2) := by decide +kernel
theorem dL_breads_177 : decode cL_breads 177 = .ok (.iload_n 2, 1) := by decide +kernel
theorem dL_breads_178 : decode cL_breads 178 = .ok (.iconst 3, 1) := by decide +kernel
theorem dL_breads_179 : decode cL_breads 179 = .ok (.ishr, 1) := by decide +kernel
theorem dL_breads_180 : decode cL_breads 180 = .ok (.iload_n 1, 1) := by decide +kernel
theorem dL_breads_181 : decode cL_breads 181 = .ok (.iconst 4, 1) := by decide +kernel
theorem dL_breads_182 : decode cL_breads 182 = .ok (.ishr, 1) := by decide +kernel
theorem dL_breads_183 : decode cL_breads 183 = .ok (.iconst 2, 1) := by decide +kernel
theorem dL_breads_184 : decode cL_breads 184 = .ok (.invokestatic 36, 3) := by decide +kernel
theorem dL_breads_187 : decode cL_breads 187 = .ok (.ifCond .ne 8, 3) := by decide +kernel
theorem dL_breads_190 : decode cL_breads 190 = .ok (.bipush 101, 2) := by decide +kernel
theorem dL_breads_192 : decode cL_breads 192 = .ok (.goto 5, 3) := by decide +kernel
theorem dL_breads_195 : decode cL_breads 195 = .ok (.bipush 40, 2) := by decide +kernel
theorem dL_breads_197 : decode cL_breads 197 = .ok (.invokestatic 36, 3) := by decide +kernel
theorem dL_breads_200 : decode cL_breads 200 = .ok (.istore 11, 2) := by decide +kernel
theorem dL_breads_202 : decode cL_breads 202 = .ok (.aload 4, 2) := by decide +kernel
theorem dL_breads_204 : decode cL_breads 204 = .ok (.bipush 6, 2) := by decide +kernel
theorem dL_breads_206 : decode cL_breads 206 = .ok (.iload 10, 2) := by decide +kernel
theorem dL_breads_208 : decode cL_breads 208 = .ok (.imul, 1) := by decide +kernel
theorem dL_breads_209 : decode cL_breads 209 = .ok (.iconst 3, 1) := by decide +kernel
theorem dL_breads_210 : decode cL_breads 210 = .ok (.iadd, 1) := by decide +kernel
theorem dL_breads_211 : decode cL_breads 211 = .ok (.iaload, 1) := by decide +kernel
theorem dL_breads_212 : decode cL_breads 212 = .ok (.istore 12, 2) := by decide +kernel
theorem dL_breads_214 : decode cL_breads 214 = .ok (.iload 9, 2) := by decide +kernel
theorem dL_breads_216 : decode cL_breads 216 = .ok (.bipush 6, 2) := by decide +kernel
theorem dL_breads_218 : decode cL_breads 218 = .ok (.if_icmp .ge 202, 3) := by decide +kernel
theorem dL_breads_221 : decode cL_breads 221 = .ok (.aload 4, 2) := by decide +kernel
theorem dL_breads_223 : decode cL_breads 223 = .ok (.bipush 6, 2) := by decide +kernel
theorem dL_breads_225 : decode cL_breads 225 = .ok (.iload 10, 2) := by decide +kernel
theorem dL_breads_227 : decode cL_breads 227 = .ok (.imul, 1) := by decide +kernel
theorem dL_breads_228 : decode cL_breads 228 = .ok (.iconst 1, 1) := by decide +kernel
theorem dL_breads_229 : decode cL_breads 229 = .ok (.iadd, 1) := by decide +kernel
theorem dL_breads_230 : decode cL_breads 230 = .ok (.iaload, 1) := by decide +kernel
theorem dL_breads_231 : decode cL_breads 231 = .ok (.istore 13, 2) := by decide +kernel
theorem dL_breads_233 : decode cL_breads 233 = .ok (.aload 4, 2) := by decide +kernel
theorem dL_breads_235 : decode cL_breads 235 = .ok (.bipush 6, 2) := by decide +kernel
theorem dL_breads_237 : decode cL_breads 237 = .ok (.iload 10, 2) := by decide +kernel
theorem dL_breads_239 : decode cL_breads 239 = .ok (.imul, 1) := by decide +kernel
theorem dL_breads_240 : decode cL_breads 240 = .ok (.iaload, 1) := by decide +kernel
theorem dL_breads_241 : decode cL_breads 241 = .ok (.ifCond .eq 33, 3) := by decide +kernel
theorem dL_breads_244 : decode cL_breads 244 = .ok (.iload 11, 2) := by decide +kernel
theorem dL_breads_246 : decode cL_breads 246 = .ok (.iload 12, 2) := by decide +kernel
theorem dL_breads_248 : decode cL_breads 248 = .ok (.if_icmp .le 44, 3) := by decide +kernel
theorem dL_breads_251 : decode cL_breads 251 = .ok (.iload 13, 2) := by decide +kernel
theorem dL_breads_253 : decode cL_breads 253 = .ok (.ifCond .lt 39, 3) := by decide +kernel
theorem dL_breads_256 : decode cL_breads 256 = .ok (.aload_n 3, 1) := by decide +kernel
theorem dL_breads_257 : decode cL_breads 257 = .ok (.aload 4, 2) := by decide +kernel
theorem dL_breads_259 : decode cL_breads 259 = .ok (.aload 5, 2) := by decide +kernel
theorem dL_breads_261 : decode cL_breads 261 = .ok (.iload 13, 2) := by decide +kernel
theorem dL_breads_263 : decode cL_breads 263 = .ok (.invokestatic 45, 3) := by decide +kernel
theorem dL_breads_266 : decode cL_breads 266 = .ok (.iload 11, 2) := by decide +kernel
theorem dL_breads_268 : decode cL_breads 268 = .ok (.iload 12, 2) := by decide +kernel
theorem dL_breads_270 : decode cL_breads 270 = .ok (.isub, 1) := by decide +kernel
theorem dL_breads_271 : decode cL_breads 271 = .ok (.if_icmp .ge 21, 3) := by decide +kernel
theorem dL_breads_274 : decode cL_breads 274 = .ok (.aload_n 0, 1) := by decide +kernel
theorem dL_breads_275 : decode cL_breads 275 = .ok (.iload 10, 2) := by decide +kernel
theorem dL_breads_277 : decode cL_breads 277 = .ok (.iload 11, 2) := by decide +kernel
theorem dL_breads_279 : decode cL_breads 279 = .ok (.invokevirtual 49, 3) := by decide +kernel
theorem dL_breads_282 : decode cL_breads 282 = .ok (.iconst (-1), 1) := by decide +kernel
theorem dL_breads_283 : decode cL_breads 283 = .ok (.if_icmp .ne 7, 3) := by decide +kernel
theorem dL_breads_286 : decode cL_breads 286 = .ok (.iconst 1, 1) := by decide +kernel
theorem dL_breads_287 : decode cL_breads 287 = .ok (.goto 4, 3) := by decide +kernel
theorem dL_breads_290 : decode cL_breads 290 = .ok (.iconst 0, 1) := by decide +kernel
theorem dL_breads_291 : decode cL_breads 291 = .ok (.ireturn, 1) := by decide +kernel
theorem dL_breads_292 : decode cL_breads 292 = .ok (.aload_n 3, 1) := by decide +kernel
theorem dL_breads_293 : decode cL_breads 293 = .ok (.aload 4, 2) := by decide +kernel
theorem dL_breads_295 : decode cL_breads 295 = .ok (.aload 5, 2) := by decide +kernel
theorem dL_breads_297 : decode cL_breads 297 = .ok (.aload 6, 2) := by decide +kernel
theorem dL_breads_299 : decode cL_breads 299 = .ok (.aload 7, 2) := by decide +kernel
theorem dL_breads_301 : decode cL_breads 301 = .ok (.aload 8, 2) := by decide +kernel
theorem dL_breads_303 : decode cL_breads 303 = .ok (.iload 10, 2) := by decide +kernel
theorem dL_breads_305 : decode cL_breads 305 = .ok (.invokestatic 52, 3) := by decide +kernel
theorem dL_breads_308 : decode cL_breads 308 = .ok (.istore 14, 2) := by decide +kernel
theorem dL_breads_310 : decode cL_breads 310 = .ok (.aload_n 0, 1) := by decide +kernel
theorem dL_breads_311 : decode cL_breads 311 = .ok (.iload 10, 2) := by decide +kernel
theorem dL_breads_313 : decode cL_breads 313 = .ok (.iload 11, 2) := by decide +kernel
theorem dL_breads_315 : decode cL_breads 315 = .ok (.invokevirtual 49, 3) := by decide +kernel
theorem dL_breads_318 : decode cL_breads 318 = .ok (.istore 15, 2) := by decide +kernel
theorem dL_breads_320 : decode cL_breads 320 = .ok (.aload_n 3, 1) := by decide +kernel
theorem dL_breads_321 : decode cL_breads 321 = .ok (.aload 4, 2) := by decide +kernel
theorem dL_breads_323 : decode cL_breads 323 = .ok (.aload 5, 2) := by decide +kernel
theorem dL_breads_325 : decode cL_breads 325 = .ok (.iload 10, 2) := by decide +kernel
theorem dL_breads_327 : decode cL_breads 327 = .ok (.iload 11, 2) := by decide +kernel
theorem dL_breads_329 : decode cL_breads 329 = .ok (.invokestatic 56, 3) := by decide +kernel
theorem dL_breads_332 : decode cL_breads 332 = .ok (.aload_n 3, 1) := by decide +kernel
theorem dL_breads_333 : decode cL_breads 333 = .ok (.aload 4, 2) := by decide +kernel
theorem dL_breads_335 : decode cL_breads 335 = .ok (.aload 5, 2) := by decide +kernel
theorem dL_breads_337 : decode cL_breads 337 = .ok (.aload 6, 2) := by decide +kernel
theorem dL_breads_339 : decode cL_breads 339 = .ok (.aload 7, 2) := by decide +kernel
theorem dL_breads_341 : decode cL_breads 341 = .ok (.aload 8, 2) := by decide +kernel
theorem dL_breads_343 : decode cL_breads 343 = .ok (.iload 10, 2) := by decide +kernel
theorem dL_breads_345 : decode cL_breads 345 = .ok (.invokestatic 52, 3) := by decide +kernel
theorem dL_breads_348 : decode cL_breads 348 = .ok (.istore 16, 2) := by decide +kernel
theorem dL_breads_350 : decode cL_breads 350 = .ok (.aload_n 3, 1) := by decide +kernel
theorem dL_breads_351 : decode cL_breads 351 = .ok (.iconst 3, 1) := by decide +kernel
theorem dL_breads_352 : decode cL_breads 352 = .ok (.iaload, 1) := by decide +kernel
theorem dL_breads_353 : decode cL_breads 353 = .ok (.bipush 6, 2) := by decide +kernel
theorem dL_breads_355 : decode cL_breads 355 = .ok (.if_icmp .ge 10, 3) := by decide +kernel
theorem dL_breads_358 : decode cL_breads 358 = .ok (.aload_n 3, 1) := by decide +kernel
theorem dL_breads_359 : decode cL_breads 359 = .ok (.iconst 3, 1) := by decide +kernel
theorem dL_breads_360 : decode cL_breads 360 = .ok (.dup2, 1) := by decide +kernel
theorem dL_breads_361 : decode cL_breads 361 = .ok (.iaload, 1) := by decide +kernel
theorem dL_breads_362 : decode cL_breads 362 = .ok (.iconst 1, 1) := by decide +kernel
theorem dL_breads_363 : decode cL_breads 363 = .ok (.iadd, 1) := by decide +kernel
theorem dL_breads_364 : decode cL_breads 364 = .ok (.iastore, 1) := by decide +kernel
theorem dL_breads_365 : decode cL_breads 365 = .ok (.iload 15, 2) := by decide +kernel
theorem dL_breads_367 : decode cL_breads 367 = .ok (.iload 16, 2) := by decide +kernel
theorem dL_breads_369 : decode cL_breads 369 = .ok (.if_icmp .ne 49, 3) := by decide +kernel
theorem dL_breads_372 : decode cL_breads 372 = .ok (.iload 11, 2) := by decide +kernel
theorem dL_breads_374 : decode cL_breads 374 = .ok (.iload 12, 2) := by decide +kernel
theorem dL_breads_376 : decode cL_breads 376 = .ok (.if_icmp .lt 22, 3) := by decide +kernel
theorem dL_breads_379 : decode cL_breads 379 = .ok (.aload_n 0, 1) := by decide +kernel
theorem dL_breads_380 : decode cL_breads 380 = .ok (.iload 10, 2) := by decide +kernel
theorem dL_breads_382 : decode cL_breads 382 = .ok (.iload 11, 2) := by decide +kernel
theorem dL_breads_384 : decode cL_breads 384 = .ok (.invokevirtual 60, 3) := by decide +kernel
theorem dL_breads_387 : decode cL_breads 387 = .ok (.iload 16, 2) := by decide +kernel
theorem dL_breads_389 : decode cL_breads 389 = .ok (.iload 14, 2) := by decide +kernel
theorem dL_breads_391 : decode cL_breads 391 = .ok (.isub, 1) := by decide +kernel
theorem dL_breads_392 : decode cL_breads 392 = .ok (.if_icmp .ne 26, 3) := by decide +kernel
theorem dL_breads_395 : decode cL_breads 395 = .ok (.goto 19, 3) := by decide +kernel
theorem dL_breads_398 : decode cL_breads 398 = .ok (.aload_n 0, 1) := by decide +kernel
theorem dL_breads_399 : decode cL_breads 399 = .ok (.iload 10, 2) := by decide +kernel
theorem dL_breads_401 : decode cL_breads 401 = .ok (.iload 11, 2) := by decide +kernel
theorem dL_breads_403 : decode cL_breads 403 = .ok (.invokevirtual 63, 3) := by decide +kernel
theorem dL_breads_406 : decode cL_breads 406 = .ok (.iload 14, 2) := by decide +kernel
theorem dL_breads_408 : decode cL_breads 408 = .ok (.iload 16, 2) := by decide +kernel
theorem dL_breads_410 : decode cL_breads 410 = .ok (.isub, 1) := by decide +kernel
theorem dL_breads_411 : decode cL_breads 411 = .ok (.if_icmp .ne 7, 3) := by decide +kernel
theorem dL_breads_414 : decode cL_breads 414 = .ok (.iconst 1, 1) := by decide +kernel
theorem dL_breads_415 : decode cL_breads 415 = .ok (.goto 4, 3) := by decide +kernel
theorem dL_breads_418 : decode cL_breads 418 = .ok (.iconst 0, 1) := by decide +kernel
theorem dL_breads_419 : decode cL_breads 419 = .ok (.ireturn, 1) := by decide +kernel
theorem dL_breads_420 : decode cL_breads 420 = .ok (.iload 9, 2) := by decide +kernel
theorem dL_breads_422 : decode cL_breads 422 = .ok (.bipush 6, 2) := by decide +kernel
theorem dL_breads_424 : decode cL_breads 424 = .ok (.if_icmp .ne 129, 3) := by decide +kernel
theorem dL_breads_427 : decode cL_breads 427 = .ok (.iload_n 2, 1) := by decide +kernel
theorem dL_breads_428 : decode cL_breads 428 = .ok (.bipush 10, 2) := by decide +kernel
theorem dL_breads_430 : decode cL_breads 430 = .ok (.ishr, 1) := by decide +kernel
theorem dL_breads_431 : decode cL_breads 431 = .ok (.iconst 3, 1) := by decide +kernel
theorem dL_breads_432 : decode cL_breads 432 = .ok (.invokestatic 36, 3) := by decide +kernel
theorem dL_breads_435 : decode cL_breads 435 = .ok (.ifCond .ne 118, 3) := by decide +kernel
theorem dL_breads_438 : decode cL_breads 438 = .ok (.aload 4, 2) := by decide +kernel
theorem dL_breads_440 : decode cL_breads 440 = .ok (.bipush 6, 2) := by decide +kernel
theorem dL_breads_442 : decode cL_breads 442 = .ok (.iload 10, 2) := by decide +kernel
theorem dL_breads_444 : decode cL_breads 444 = .ok (.imul, 1) := by decide +kernel
theorem dL_breads_445 : decode cL_breads 445 = .ok (.iaload, 1) := by decide +kernel
theorem dL_breads_446 : decode cL_breads 446 = .ok (.ifCond .ne 19, 3) := by decide +kernel
theorem dL_breads_449 : decode cL_breads 449 = .ok (.aload_n 0, 1) := by decide +kernel
theorem dL_breads_450 : decode cL_breads 450 = .ok (.iload 10, 2) := by decide +kernel
theorem dL_breads_452 : decode cL_breads 452 = .ok (.iconst 0, 1) := by decide +kernel
theorem dL_breads_453 : decode cL_breads 453 = .ok (.invokevirtual 66, 3) := by decide +kernel
theorem dL_breads_456 : decode cL_breads 456 = .ok (.ifCond .ne 7, 3) := by decide +kernel
theorem dL_breads_459 : decode cL_breads 459 = .ok (.iconst 1, 1) := by decide +kernel
theorem dL_breads_460 : decode cL_breads 460 = .ok (.goto 4, 3) := by decide +kernel
theorem dL_breads_463 : decode cL_breads 463 = .ok (.iconst 0, 1) := by decide +kernel
theorem dL_breads_464 : decode cL_breads 464 = .ok (.ireturn, 1) := by decide +kernel
theorem dL_breads_465 : decode cL_breads 465 = .ok (.aload_n 3, 1) := by decide +kernel
theorem dL_breads_466 : decode cL_breads 466 = .ok (.aload 4, 2) := by decide +kernel
theorem dL_breads_468 : decode cL_breads 468 = .ok (.aload 5, 2) := by decide +kernel
theorem dL_breads_470 : decode cL_breads 470 = .ok (.iload 10, 2) := by decide +kernel
theorem dL_breads_472 : decode cL_breads 472 = .ok (.iconst 0, 1) := by decide +kernel
theorem dL_breads_473 : decode cL_breads 473 = .ok (.invokestatic 56, 3) := by decide +kernel
theorem dL_breads_476 : decode cL_breads 476 = .ok (.aload 4, 2) := by decide +kernel
theorem dL_breads_478 : decode cL_breads 478 = .ok (.bipush 6, 2) := by decide +kernel
theorem dL_breads_480 : decode cL_breads 480 = .ok (.iload 10, 2) := by decide +kernel
theorem dL_breads_482 : decode cL_breads 482 = .ok (.imul, 1) := by decide +kernel
theorem dL_breads_483 : decode cL_breads 483 = .ok (.iconst 0, 1) := by decide +kernel
theorem dL_breads_484 : decode cL_breads 484 = .ok (.iastore, 1) := by decide +kernel
theorem dL_breads_485 : decode cL_breads 485 = .ok (.iconst 0, 1) := by decide +kernel
theorem dL_breads_486 : decode cL_breads 486 = .ok (.istore 13, 2) := by decide +kernel
theorem dL_breads_488 : decode cL_breads 488 = .ok (.iconst 0, 1) := by decide +kernel
theorem dL_breads_489 : decode cL_breads 489 = .ok (.istore 14, 2) := by decide +kernel
theorem dL_breads_491 : decode cL_breads 491 = .ok (.iload 14, 2) := by decide +kernel
theorem dL_breads_493 : decode cL_breads 493 = .ok (.sipush 150, 3) := by decide +kernel
theorem dL_breads_496 : decode cL_breads 496 = .ok (.if_icmp .ge 25, 3) := by decide +kernel
theorem dL_breads_499 : decode cL_breads 499 = .ok (.aload 8, 2) := by decide +kernel
theorem dL_breads_501 : decode cL_breads 501 = .ok (.iconst 3, 1) := by decide +kernel
theorem dL_breads_502 : decode cL_breads 502 = .ok (.iload 10, 2) := by decide +kernel
theorem dL_breads_504 : decode cL_breads 504 = .ok (.iload 14, 2) := by decide +kernel
theorem dL_breads_506 : decode cL_breads 506 = .ok (.invokestatic 14, 3) := by decide +kernel
theorem dL_breads_509 : decode cL_breads 509 = .ok (.ifCond .eq 6, 3) := by decide +kernel
theorem dL_breads_512 : decode cL_breads 512 = .ok (.iinc 13 1, 3) := by decide +kernel
theorem dL_breads_515 : decode cL_breads 515 = .ok (.iinc 14 1, 3) := by decide +kernel
theorem dL_breads_518 : decode cL_breads 518 = .ok (.goto (-27), 3) := by decide +kernel
theorem dL_breads_521 : decode cL_breads 521 = .ok (.aload_n 3, 1) := by decide +kernel
theorem dL_breads_522 : decode cL_breads 522 = .ok (.iconst 3, 1) := by decide +kernel
theorem dL_breads_523 : decode cL_breads 523 = .ok (.iaload, 1) := by decide +kernel
theorem dL_breads_524 : decode cL_breads 524 = .ok (.bipush 6, 2) := by decide +kernel
theorem dL_breads_526 : decode cL_breads 526 = .ok (.if_icmp .ge 10, 3) := by decide +kernel
theorem dL_breads_529 : decode cL_breads 529 = .ok (.aload_n 3, 1) := by decide +kernel
theorem dL_breads_530 : decode cL_breads 530 = .ok (.iconst 3, 1) := by decide +kernel
theorem dL_breads_531 : decode cL_breads 531 = .ok (.dup2, 1) := by decide +kernel
theorem dL_breads_532 : decode cL_breads 532 = .ok (.iaload, 1) := by decide +kernel
theorem dL_breads_533 : decode cL_breads 533 = .ok (.iconst 1, 1) := by decide +kernel
theorem dL_breads_534 : decode cL_breads 534 = .ok (.iadd, 1) := by decide +kernel
theorem dL_breads_535 : decode cL_breads 535 = .ok (.iastore, 1) := by decide +kernel
theorem dL_breads_536 : decode cL_breads 536 = .ok (.aload_n 0, 1) := by decide +kernel
theorem dL_breads_537 : decode cL_breads 537 = .ok (.iload 10, 2) := by decide +kernel
theorem dL_breads_539 : decode cL_breads 539 = .ok (.invokevirtual 69, 3) := by decide +kernel
theorem dL_breads_542 : decode cL_breads 542 = .ok (.iload 13, 2) := by decide +kernel
theorem dL_breads_544 : decode cL_breads 544 = .ok (.if_icmp .ne 7, 3) := by decide +kernel
theorem dL_breads_547 : decode cL_breads 547 = .ok (.iconst 1, 1) := by decide +kernel
theorem dL_breads_548 : decode cL_breads 548 = .ok (.goto 4, 3) := by decide +kernel
theorem dL_breads_551 : decode cL_breads 551 = .ok (.iconst 0, 1) := by decide +kernel
theorem dL_breads_552 : decode cL_breads 552 = .ok (.ireturn, 1) := by decide +kernel
theorem dL_breads_553 : decode cL_breads 553 = .ok (.iload 9, 2) := by decide +kernel
theorem dL_breads_555 : decode cL_breads 555 = .ok (.bipush 8, 2) := by decide +kernel
theorem dL_breads_557 : decode cL_breads 557 = .ok (.if_icmp .ge 73, 3) := by decide +kernel
theorem dL_breads_560 : decode cL_breads 560 = .ok (.iload_n 2, 1) := by decide +kernel
theorem dL_breads_561 : decode cL_breads 561 = .ok (.iconst 3, 1) := by decide +kernel
theorem dL_breads_562 : decode cL_breads 562 = .ok (.ishr, 1) := by decide +kernel
theorem dL_breads_563 : decode cL_breads 563 = .ok (.iconst 3, 1) := by decide +kernel
theorem dL_breads_564 : decode cL_breads 564 = .ok (.invokestatic 36, 3) := by decide +kernel
theorem dL_breads_567 : decode cL_breads 567 = .ok (.istore 13, 2) := by decide +kernel
theorem dL_breads_569 : decode cL_breads 569 = .ok (.aload_n 3, 1) := by decide +kernel
theorem dL_breads_570 : decode cL_breads 570 = .ok (.iconst 4, 1) := by decide +kernel
theorem dL_breads_571 : decode cL_breads 571 = .ok (.iload 13, 2) := by decide +kernel
theorem dL_breads_573 : decode cL_breads 573 = .ok (.iadd, 1) := by decide +kernel
theorem dL_breads_574 : decode cL_breads 574 = .ok (.iaload, 1) := by decide +kernel
theorem dL_breads_575 : decode cL_breads 575 = .ok (.istore 14, 2) := by decide +kernel
theorem dL_breads_577 : decode cL_breads 577 = .ok (.aload_n 3, 1) := by decide +kernel
theorem dL_breads_578 : decode cL_breads 578 = .ok (.iconst 4, 1) := by decide +kernel
theorem dL_breads_579 : decode cL_breads 579 = .ok (.iload 13, 2) := by decide +kernel
theorem dL_breads_581 : decode cL_breads 581 = .ok (.iadd, 1) := by decide +kernel
theorem dL_breads_582 : decode cL_breads 582 = .ok (.iload_n 2, 1) := by decide +kernel
theorem dL_breads_583 : decode cL_breads 583 = .ok (.iconst 5, 1) := by decide +kernel
theorem dL_breads_584 : decode cL_breads 584 = .ok (.ishr, 1) := by decide +kernel
theorem dL_breads_585 : decode cL_breads 585 = .ok (.sipush 10000, 3) := by decide +kernel
theorem dL_breads_588 : decode cL_breads 588 = .ok (.invokestatic 36, 3) := by decide +kernel
theorem dL_breads_591 : decode cL_breads 591 = .ok (.iastore, 1) := by decide +kernel
theorem dL_breads_592 : decode cL_breads 592 = .ok (.aload_n 3, 1) := by decide +kernel
theorem dL_breads_593 : decode cL_breads 593 = .ok (.iconst 3, 1) := by decide +kernel
theorem dL_breads_594 : decode cL_breads 594 = .ok (.iaload, 1) := by decide +kernel
theorem dL_breads_595 : decode cL_breads 595 = .ok (.bipush 6, 2) := by decide +kernel
theorem dL_breads_597 : decode cL_breads 597 = .ok (.if_icmp .ge 10, 3) := by decide +kernel
theorem dL_breads_600 : decode cL_breads 600 = .ok (.aload_n 3, 1) := by decide +kernel
theorem dL_breads_601 : decode cL_breads 601 = .ok (.iconst 3, 1) := by decide +kernel
theorem dL_breads_602 : decode cL_breads 602 = .ok (.dup2, 1) := by decide +kernel
theorem dL_breads_603 : decode cL_breads 603 = .ok (.iaload, 1) := by decide +kernel
theorem dL_breads_604 : decode cL_breads 604 = .ok (.iconst 1, 1) := by decide +kernel
theorem dL_breads_605 : decode cL_breads 605 = .ok (.iadd, 1) := by decide +kernel
theorem dL_breads_606 : decode cL_breads 606 = .ok (.iastore, 1) := by decide +kernel
theorem dL_breads_607 : decode cL_breads 607 = .ok (.aload_n 0, 1) := by decide +kernel
theorem dL_breads_608 : decode cL_breads 608 = .ok (.iload 13, 2) := by decide +kernel
theorem dL_breads_610 : decode cL_breads 610 = .ok (.aload_n 3, 1) := by decide +kernel
theorem dL_breads_611 : decode cL_breads 611 = .ok (.iconst 4, 1) := by decide +kernel
theorem dL_breads_612 : decode cL_breads 612 = .ok (.iload 13, 2) := by decide +kernel
theorem dL_breads_614 : decode cL_breads 614 = .ok (.iadd, 1) := by decide +kernel
theorem dL_breads_615 : decode cL_breads 615 = .ok (.iaload, 1) := by decide +kernel
theorem dL_breads_616 : decode cL_breads 616 = .ok (.invokevirtual 73, 3) := by decide +kernel
theorem dL_breads_619 : decode cL_breads 619 = .ok (.iload 14, 2) := by decide +kernel
theorem dL_breads_621 : decode cL_breads 621 = .ok (.if_icmp .ne 7, 3) := by decide +kernel
theorem dL_breads_624 : decode cL_breads 624 = .ok (.iconst 1, 1) := by decide +kernel
theorem dL_breads_625 : decode cL_breads 625 = .ok (.goto 4, 3) := by decide +kernel
theorem dL_breads_628 : decode cL_breads 628 = .ok (.iconst 0, 1) := by decide +kernel
theorem dL_breads_629 : decode cL_breads 629 = .ok (.ireturn, 1) := by decide +kernel
theorem dL_breads_630 : decode cL_breads 630 = .ok (.aload 4, 2) := by decide +kernel
theorem dL_breads_632 : decode cL_breads 632 = .ok (.bipush 6, 2) := by decide +kernel
theorem dL_breads_634 : decode cL_breads 634 = .ok (.iload 10, 2) := by decide +kernel
theorem dL_breads_636 : decode cL_breads 636 = .ok (.imul, 1) := by decide +kernel
theorem dL_breads_637 : decode cL_breads 637 = .ok (.iaload, 1) := by decide +kernel
theorem dL_breads_638 : decode cL_breads 638 = .ok (.ifCond .eq 16, 3) := by decide +kernel
theorem dL_breads_641 : decode cL_breads 641 = .ok (.aload 4, 2) := by decide +kernel
theorem dL_breads_643 : decode cL_breads 643 = .ok (.bipush 6, 2) := by decide +kernel
theorem dL_breads_645 : decode cL_breads 645 = .ok (.iload 10, 2) := by decide +kernel
theorem dL_breads_647 : decode cL_breads 647 = .ok (.imul, 1) := by decide +kernel
theorem dL_breads_648 : decode cL_breads 648 = .ok (.iconst 1, 1) := by decide +kernel
theorem dL_breads_649 : decode cL_breads 649 = .ok (.iadd, 1) := by decide +kernel
theorem dL_breads_650 : decode cL_breads 650 = .ok (.iaload, 1) := by decide +kernel
theorem dL_breads_651 : decode cL_breads 651 = .ok (.ifCond .lt 20, 3) := by decide +kernel
theorem dL_breads_654 : decode cL_breads 654 = .ok (.aload_n 0, 1) := by decide +kernel
theorem dL_breads_655 : decode cL_breads 655 = .ok (.iload 10, 2) := by decide +kernel
theorem dL_breads_657 : decode cL_breads 657 = .ok (.iconst 5, 1) := by decide +kernel
theorem dL_breads_658 : decode cL_breads 658 = .ok (.invokevirtual 76, 3) := by decide +kernel
theorem dL_breads_661 : decode cL_breads 661 = .ok (.iconst (-1), 1) := by decide +kernel
theorem dL_breads_662 : decode cL_breads 662 = .ok (.if_icmp .ne 7, 3) := by decide +kernel
theorem dL_breads_665 : decode cL_breads 665 = .ok (.iconst 1, 1) := by decide +kernel
theorem dL_breads_666 : decode cL_breads 666 = .ok (.goto 4, 3) := by decide +kernel
theorem dL_breads_669 : decode cL_breads 669 = .ok (.iconst 0, 1) := by decide +kernel
theorem dL_breads_670 : decode cL_breads 670 = .ok (.ireturn, 1) := by decide +kernel
theorem dL_breads_671 : decode cL_breads 671 = .ok (.iload_n 2, 1) := by decide +kernel
theorem dL_breads_672 : decode cL_breads 672 = .ok (.iconst 5, 1) := by decide +kernel
theorem dL_breads_673 : decode cL_breads 673 = .ok (.ishr, 1) := by decide +kernel
theorem dL_breads_674 : decode cL_breads 674 = .ok (.sipush 10000, 3) := by decide +kernel
theorem dL_breads_677 : decode cL_breads 677 = .ok (.invokestatic 36, 3) := by decide +kernel
theorem dL_breads_680 : decode cL_breads 680 = .ok (.istore 13, 2) := by decide +kernel
theorem dL_breads_682 : decode cL_breads 682 = .ok (.iconst 0, 1) := by decide +kernel
theorem dL_breads_683 : decode cL_breads 683 = .ok (.istore 14, 2) := by decide +kernel
theorem dL_breads_685 : decode cL_breads 685 = .ok (.iconst 0, 1) := by decide +kernel
theorem dL_breads_686 : decode cL_breads 686 = .ok (.istore 15, 2) := by decide +kernel
theorem dL_breads_688 : decode cL_breads 688 = .ok (.iload 15, 2) := by decide +kernel
theorem dL_breads_690 : decode cL_breads 690 = .ok (.sipush 150, 3) := by decide +kernel
theorem dL_breads_693 : decode cL_breads 693 = .ok (.if_icmp .ge 109, 3) := by decide +kernel
theorem dL_breads_696 : decode cL_breads 696 = .ok (.aload 6, 2) := by decide +kernel
theorem dL_breads_698 : decode cL_breads 698 = .ok (.iconst 3, 1) := by decide +kernel
theorem dL_breads_699 : decode cL_breads 699 = .ok (.iload 10, 2) := by decide +kernel
theorem dL_breads_701 : decode cL_breads 701 = .ok (.iload 15, 2) := by decide +kernel
theorem dL_breads_703 : decode cL_breads 703 = .ok (.invokestatic 14, 3) := by decide +kernel
theorem dL_breads_706 : decode cL_breads 706 = .ok (.ifCond .ne 90, 3) := by decide +kernel
theorem dL_breads_709 : decode cL_breads 709 = .ok (.aload 7, 2) := by decide +kernel
theorem dL_breads_711 : decode cL_breads 711 = .ok (.iconst 3, 1) := by decide +kernel
theorem dL_breads_712 : decode cL_breads 712 = .ok (.iload 10, 2) := by decide +kernel
theorem dL_breads_714 : decode cL_breads 714 = .ok (.iload 15, 2) := by decide +kernel
theorem dL_breads_716 : decode cL_breads 716 = .ok (.invokestatic 14, 3) := by decide +kernel
theorem dL_breads_719 : decode cL_breads 719 = .ok (.ifCond .ne 77, 3) := by decide +kernel
theorem dL_breads_722 : decode cL_breads 722 = .ok (.aload 4, 2) := by decide +kernel
theorem dL_breads_724 : decode cL_breads 724 = .ok (.bipush 6, 2) := by decide +kernel
theorem dL_breads_726 : decode cL_breads 726 = .ok (.iload 10, 2) := by decide +kernel
theorem dL_breads_728 : decode cL_breads 728 = .ok (.imul, 1) := by decide +kernel
theorem dL_breads_729 : decode cL_breads 729 = .ok (.iconst 4, 1) := by decide +kernel
theorem dL_breads_730 : decode cL_breads 730 = .ok (.iadd, 1) := by decide +kernel
theorem dL_breads_731 : decode cL_breads 731 = .ok (.iaload, 1) := by decide +kernel
theorem dL_breads_732 : decode cL_breads 732 = .ok (.ifCond .eq 16, 3) := by decide +kernel
theorem dL_breads_735 : decode cL_breads 735 = .ok (.aload 8, 2) := by decide +kernel
theorem dL_breads_737 : decode cL_breads 737 = .ok (.iconst 3, 1) := by decide +kernel
theorem dL_breads_738 : decode cL_breads 738 = .ok (.iload 10, 2) := by decide +kernel
theorem dL_breads_740 : decode cL_breads 740 = .ok (.iload 15, 2) := by decide +kernel
theorem dL_breads_742 : decode cL_breads 742 = .ok (.invokestatic 14, 3) := by decide +kernel
theorem dL_breads_745 : decode cL_breads 745 = .ok (.ifCond .ne 51, 3) := by decide +kernel
theorem dL_breads_748 : decode cL_breads 748 = .ok (.iload 15, 2) := by decide +kernel
theorem dL_breads_750 : decode cL_breads 750 = .ok (.iload 13, 2) := by decide +kernel
theorem dL_breads_752 : decode cL_breads 752 = .ok (.invokestatic 20, 3) := by decide +kernel
theorem dL_breads_755 : decode cL_breads 755 = .ok (.iload 12, 2) := by decide +kernel
theorem dL_breads_757 : decode cL_breads 757 = .ok (.if_icmp .ge 7, 3) := by decide +kernel
theorem dL_breads_760 : decode cL_breads 760 = .ok (.iconst 1, 1) := by decide +kernel
theorem dL_breads_761 : decode cL_breads 761 = .ok (.goto 4, 3) := by decide +kernel
theorem dL_breads_764 : decode cL_breads 764 = .ok (.iconst 0, 1) := by decide +kernel
theorem dL_breads_765 : decode cL_breads 765 = .ok (.iload 15, 2) := by decide +kernel
theorem dL_breads_767 : decode cL_breads 767 = .ok (.aload 4, 2) := by decide +kernel
theorem dL_breads_769 : decode cL_breads 769 = .ok (.bipush 6, 2) := by decide +kernel
theorem dL_breads_771 : decode cL_breads 771 = .ok (.iload 10, 2) := by decide +kernel
theorem dL_breads_773 : decode cL_breads 773 = .ok (.imul, 1) := by decide +kernel
theorem dL_breads_774 : decode cL_breads 774 = .ok (.iconst 2, 1) := by decide +kernel
theorem dL_breads_775 : decode cL_breads 775 = .ok (.iadd, 1) := by decide +kernel
theorem dL_breads_776 : decode cL_breads 776 = .ok (.iaload, 1) := by decide +kernel
theorem dL_breads_777 : decode cL_breads 777 = .ok (.invokestatic 20, 3) := by decide +kernel
theorem dL_breads_780 : decode cL_breads 780 = .ok (.iload 12, 2) := by decide +kernel
theorem dL_breads_782 : decode cL_breads 782 = .ok (.if_icmp .ge 7, 3) := by decide +kernel
theorem dL_breads_785 : decode cL_breads 785 = .ok (.iconst 1, 1) := by decide +kernel
theorem dL_breads_786 : decode cL_breads 786 = .ok (.goto 4, 3) := by decide +kernel
theorem dL_breads_789 : decode cL_breads 789 = .ok (.iconst 0, 1) := by decide +kernel
theorem dL_breads_790 : decode cL_breads 790 = .ok (.if_icmp .eq 6, 3) := by decide +kernel
theorem dL_breads_793 : decode cL_breads 793 = .ok (.iinc 14 1, 3) := by decide +kernel
theorem dL_breads_796 : decode cL_breads 796 = .ok (.iinc 15 1, 3) := by decide +kernel
theorem dL_breads_799 : decode cL_breads 799 = .ok (.goto (-111), 3) := by decide +kernel
theorem dL_breads_802 : decode cL_breads 802 = .ok (.aload 4, 2) := by decide +kernel
theorem dL_breads_804 : decode cL_breads 804 = .ok (.bipush 6, 2) := by decide +kernel
theorem dL_breads_806 : decode cL_breads 806 = .ok (.iload 10, 2) := by decide +kernel
theorem dL_breads_808 : decode cL_breads 808 = .ok (.imul, 1) := by decide +kernel
theorem dL_breads_809 : decode cL_breads 809 = .ok (.iconst 2, 1) := by decide +kernel
theorem dL_breads_810 : decode cL_breads 810 = .ok (.iadd, 1) := by decide +kernel
theorem dL_breads_811 : decode cL_breads 811 = .ok (.iload 13, 2) := by decide +kernel
theorem dL_breads_813 : decode cL_breads 813 = .ok (.iastore, 1) := by decide +kernel
theorem dL_breads_814 : decode cL_breads 814 = .ok (.aload_n 3, 1) := by decide +kernel
theorem dL_breads_815 : decode cL_breads 815 = .ok (.iconst 3, 1) := by decide +kernel
theorem dL_breads_816 : decode cL_breads 816 = .ok (.iaload, 1) := by decide +kernel
theorem dL_breads_817 : decode cL_breads 817 = .ok (.bipush 6, 2) := by decide +kernel
theorem dL_breads_819 : decode cL_breads 819 = .ok (.if_icmp .ge 10, 3) := by decide +kernel
theorem dL_breads_822 : decode cL_breads 822 = .ok (.aload_n 3, 1) := by decide +kernel
theorem dL_breads_823 : decode cL_breads 823 = .ok (.iconst 3, 1) := by decide +kernel
theorem dL_breads_824 : decode cL_breads 824 = .ok (.dup2, 1) := by decide +kernel
theorem dL_breads_825 : decode cL_breads 825 = .ok (.iaload, 1) := by decide +kernel
theorem dL_breads_826 : decode cL_breads 826 = .ok (.iconst 1, 1) := by decide +kernel
theorem dL_breads_827 : decode cL_breads 827 = .ok (.iadd, 1) := by decide +kernel
theorem dL_breads_828 : decode cL_breads 828 = .ok (.iastore, 1) := by decide +kernel
theorem dL_breads_829 : decode cL_breads 829 = .ok (.aload_n 0, 1) := by decide +kernel
theorem dL_breads_830 : decode cL_breads 830 = .ok (.iload 10, 2) := by decide +kernel
theorem dL_breads_832 : decode cL_breads 832 = .ok (.iload 13, 2) := by decide +kernel
theorem dL_breads_834 : decode cL_breads 834 = .ok (.invokevirtual 79, 3) := by decide +kernel
theorem dL_breads_837 : decode cL_breads 837 = .ok (.iload 14, 2) := by decide +kernel
theorem dL_breads_839 : decode cL_breads 839 = .ok (.if_icmp .ne 7, 3) := by decide +kernel
theorem dL_breads_842 : decode cL_breads 842 = .ok (.iconst 1, 1) := by decide +kernel
theorem dL_breads_843 : decode cL_breads 843 = .ok (.goto 4, 3) := by decide +kernel
theorem dL_breads_846 : decode cL_breads 846 = .ok (.iconst 0, 1) := by decide +kernel
theorem dL_breads_847 : decode cL_breads 847 = .ok (.ireturn, 1) := by decide +kernel
set_option maxRecDepth 20000 in
theorem ggL_persons_L_at : GoodIn wsL_persons wsL_at := goodIn_r _ [4] (by decide +kernel) (by decide +kernel)
set_option maxRecDepth 20000 in
theorem gL_persons_L_at : GoodIn wsL_persons (va_wsS RL 36 yL_at wsL_at) := goodIn_app (goodIn_of _ (by decide +kernel)) ggL_persons_L_at
set_option maxRecDepth 20000 in
theorem ggL_persons_L_eats : GoodIn wsL_persons wsL_eats := goodIn_r _ [7, 8, 9, 3, 10, 11, 12, 13, 14, 15, 16, 17] (by decide +kernel) (by decide +kernel)
set_option maxRecDepth 20000 in
theorem gL_persons_L_eats : GoodIn wsL_persons (va_wsS RL 24 yL_eats wsL_eats) := goodIn_app (goodIn_of _ (by decide +kernel)) ggL_persons_L_eats
set_option maxRecDepth 20000 in
theorem ggL_persons_L_put : GoodIn wsL_persons wsL_put := goodIn_r _ [20, 21] (by decide +kernel) (by decide +kernel)
set_option maxRecDepth 20000 in
theorem gL_persons_L_put : GoodIn wsL_persons (va_wsS RL 32 yL_put wsL_put) := goodIn_app (goodIn_of _ (by decide +kernel)) ggL_persons_L_put
set_option maxRecDepth 20000 in
theorem ggL_persons_X4_pass : GoodIn wsL_persons wsX4_pass := goodIn_ca (goodIn_r _ [26, 27, 28, 29, 30, 31, 32, 33, 34, 35, 36, 37, 38, 39, 40, 41, 42, 43, 44, 45, 46, 47, 48, 49, 50, 51, 52, 53, 54, 55, 56, 57, 58, 59, 60, 61, 62, 63, 64, 65, 66, 67, 68, 69, 70, 71, 72, 73, 74, 75, 76, 77, 78, 79, 80, 25, 81, 82, 83, 84, 85, 86, 87, 88, 89, 90, 91, 92, 93, 94, 95, 96, 97, 98, 99, 100, 101, 102, 103, 153, 154, 155, 156, 157, 158, 159, 160, 161, 162, 163, 164, 165, 166, 167, 168, 169, 170, 171, 172, 173, 174] (by decide +kernel) (by decide +kernel)) (goodIn_sub (fun _ h => List.mem_cons_of_mem _ (List.mem_append_left _ (List.mem_append_left _ (List.mem_append_right _ h)))) (by decide +kernel))
set_option maxRecDepth 20000 in
theorem gL_persons_X4_pass : GoodIn wsL_persons (wsV RL 82 RX4 yX4_pass wsX4_pass) := goodIn_app (goodIn_of _ (by decide +kernel)) ggL_persons_X4_pass
set_option maxRecDepth 20000 in
theorem ggL_persons_L_has : GoodIn wsL_persons wsL_has := goodIn_r _ [10] (by decide +kernel) (by decide +kernel)
set_option maxRecDepth 20000 in
theorem gL_persons_L_has : GoodIn wsL_persons (va_wsS RL 14 yL_has wsL_has) := goodIn_app (goodIn_of _ (by decide +kernel)) ggL_persons_L_has
set_option maxRecDepth 20000 in
theorem ggL_persons_X4_hold : GoodIn wsL_persons wsX4_hold := goodIn_ca (goodIn_ca (goodIn_r _ [107, 29, 30, 108, 109, 25, 110, 111, 112, 113, 114, 115, 116, 117, 118, 119, 47, 120, 49, 121, 122, 123, 124, 125, 126, 127, 128, 129, 130, 52, 131, 32, 33, 34, 35, 36, 37, 38, 39, 40, 41, 42, 43, 44, 45, 46, 48, 50, 51, 53, 54, 55, 56, 57, 58, 59, 60, 61, 62, 63, 64, 65, 66, 67, 132, 133, 134, 135, 76, 77, 78, 79, 80, 81, 82, 83, 84, 85, 86, 87, 88, 89, 90, 91, 92, 93, 94, 95, 96, 136, 137, 138, 139, 140, 141, 142, 143, 153, 154, 155, 156, 157, 158, 159, 160, 161, 162, 163, 164, 165, 166, 167, 168, 169, 170, 171, 172, 173, 174] (by decide +kernel) (by decide +kernel)) (goodIn_sub (fun _ h => List.mem_cons_of_mem _ (List.mem_append_left _ (List.mem_append_right _ h))) (by decide +kernel))) (goodIn_sub (fun _ h => List.mem_cons_of_mem _ (List.mem_append_right _ h)) (by decide +kernel))
set_option maxRecDepth 20000 in
theorem gL_persons_X4_hold : GoodIn wsL_persons (wsV RL 85 RX4 yX4_hold wsX4_hold) := goodIn_app (goodIn_of _ (by decide +kernel)) ggL_persons_X4_hold
set_option maxRecDepth 20000 in
theorem ggL_persons_X4_letGo : GoodIn wsL_persons wsX4_letGo := goodIn_ca (goodIn_ca (goodIn_r _ [147, 125, 126, 30, 29, 108, 109, 25, 110, 111, 112, 113, 114, 115, 116, 117, 118, 119, 47, 120, 49, 148, 149, 150, 151, 64, 65, 32, 33, 34, 35, 36, 37, 38, 39, 40, 41, 42, 43, 44, 45, 46, 48, 50, 51, 52, 53, 54, 55, 56, 57, 58, 59, 60, 61, 62, 63, 66, 67, 132, 133, 134, 135, 76, 77, 78, 79, 80, 81, 82, 83, 84, 85, 86, 87, 88, 89, 90, 91, 92, 93, 94, 95, 96, 152, 141, 142, 143, 153, 154, 155, 156, 157, 158, 159, 160, 161, 162, 163, 164, 165, 166, 167, 168, 169, 170, 171, 172, 173, 174] (by decide +kernel) (by decide +kernel)) (goodIn_sub (fun _ h => List.mem_cons_of_mem _ (List.mem_append_right _ h)) (by decide +kernel))) (goodIn_sub (fun _ h => List.mem_cons_of_mem _ (List.mem_append_left _ (List.mem_append_right _ h))) (by decide +kernel))
set_option maxRecDepth 20000 in
theorem gL_persons_X4_letGo : GoodIn wsL_persons (wsV RL 88 RX4 yX4_letGo wsX4_letGo) := goodIn_app (goodIn_of _ (by decide +kernel)) ggL_persons_X4_letGo
