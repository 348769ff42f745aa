theorem d_L_law_0 : decode code 0 = .ok (.new 8, 3) := by decide +kernel
theorem d_L_law_3 : decode code 3 = .ok (.dup, 1) := by decide +kernel
theorem d_L_law_4 : decode code 4 = .ok (.invokespecial 49, 3) := by decide +kernel
theorem d_L_law_7 : decode code 7 = .ok (.astore_n 1, 1) := by decide +kernel
theorem d_L_law_8 : decode code 8 = .ok (.new 50, 3) := by decide +kernel
theorem d_L_law_11 : decode code 11 = .ok (.dup, 1) := by decide +kernel
theorem d_L_law_12 : decode code 12 = .ok (.invokespecial 52, 3) := by decide +kernel
theorem d_L_law_15 : decode code 15 = .ok (.astore_n 2, 1) := by decide +kernel
theorem d_L_law_16 : decode code 16 = .ok (.iconst 1, 1) := by decide +kernel
theorem d_L_law_17 : decode code 17 = .ok (.newarray .long, 2) := by decide +kernel
theorem d_L_law_19 : decode code 19 = .ok (.astore_n 3, 1) := by decide +kernel
theorem d_L_law_20 : decode code 20 = .ok (.iconst 0, 1) := by decide +kernel
theorem d_L_law_21 : decode code 21 = .ok (.istore 4, 2) := by decide +kernel
theorem d_L_law_23 : decode code 23 = .ok (.iload 4, 2) := by decide +kernel
theorem d_L_law_25 : decode code 25 = .ok (.aload_n 0, 1) := by decide +kernel
theorem d_L_law_26 : decode code 26 = .ok (.arraylength, 1) := by decide +kernel
theorem d_L_law_27 : decode code 27 = .ok (.iconst 4, 1) := by decide +kernel
theorem d_L_law_28 : decode code 28 = .ok (.isub, 1) := by decide +kernel
theorem d_L_law_29 : decode code 29 = .ok (.if_icmp .gt 657, 3) := by decide +kernel
theorem d_L_law_32 : decode code 32 = .ok (.aload_n 0, 1) := by decide +kernel
theorem d_L_law_33 : decode code 33 = .ok (.iload 4, 2) := by decide +kernel
theorem d_L_law_35 : decode code 35 = .ok (.iaload, 1) := by decide +kernel
theorem d_L_law_36 : decode code 36 = .ok (.bipush 15, 2) := by decide +kernel
theorem d_L_law_38 : decode code 38 = .ok (.iand, 1) := by decide +kernel
theorem d_L_law_39 : decode code 39 = .ok (.tableswitch 641 0 10 #[57, 105, 185, 245, 301, 312, 368, 448, 461, 529, 585], 57) := by decide +kernel
theorem d_L_law_96 : decode code 96 = .ok (.aload_n 1, 1) := by decide +kernel
theorem d_L_law_97 : decode code 97 = .ok (.aload_n 0, 1) := by decide +kernel
theorem d_L_law_98 : decode code 98 = .ok (.iload 4, 2) := by decide +kernel
theorem d_L_law_100 : decode code 100 = .ok (.iconst 1, 1) := by decide +kernel
theorem d_L_law_101 : decode code 101 = .ok (.iadd, 1) := by decide +kernel
theorem d_L_law_102 : decode code 102 = .ok (.iaload, 1) := by decide +kernel
theorem d_L_law_103 : decode code 103 = .ok (.aload_n 0, 1) := by decide +kernel
theorem d_L_law_104 : decode code 104 = .ok (.iload 4, 2) := by decide +kernel
theorem d_L_law_106 : decode code 106 = .ok (.iconst 2, 1) := by decide +kernel
theorem d_L_law_107 : decode code 107 = .ok (.iadd, 1) := by decide +kernel
theorem d_L_law_108 : decode code 108 = .ok (.iaload, 1) := by decide +kernel
theorem d_L_law_109 : decode code 109 = .ok (.invokestatic 53, 3) := by decide +kernel
theorem d_L_law_112 : decode code 112 = .ok (.istore 5, 2) := by decide +kernel
theorem d_L_law_114 : decode code 114 = .ok (.aload_n 2, 1) := by decide +kernel
theorem d_L_law_115 : decode code 115 = .ok (.aload_n 0, 1) := by decide +kernel
theorem d_L_law_116 : decode code 116 = .ok (.iload 4, 2) := by decide +kernel
theorem d_L_law_118 : decode code 118 = .ok (.iconst 1, 1) := by decide +kernel
theorem d_L_law_119 : decode code 119 = .ok (.iadd, 1) := by decide +kernel
theorem d_L_law_120 : decode code 120 = .ok (.iaload, 1) := by decide +kernel
theorem d_L_law_121 : decode code 121 = .ok (.aload_n 0, 1) := by decide +kernel
theorem d_L_law_122 : decode code 122 = .ok (.iload 4, 2) := by decide +kernel
theorem d_L_law_124 : decode code 124 = .ok (.iconst 2, 1) := by decide +kernel
theorem d_L_law_125 : decode code 125 = .ok (.iadd, 1) := by decide +kernel
theorem d_L_law_126 : decode code 126 = .ok (.iaload, 1) := by decide +kernel
theorem d_L_law_127 : decode code 127 = .ok (.invokevirtual 58, 3) := by decide +kernel
theorem d_L_law_130 : decode code 130 = .ok (.aload_n 2, 1) := by decide +kernel
theorem d_L_law_131 : decode code 131 = .ok (.invokevirtual 59, 3) := by decide +kernel
theorem d_L_law_134 : decode code 134 = .ok (.iload 5, 2) := by decide +kernel
theorem d_L_law_136 : decode code 136 = .ok (.if_icmp .eq 5, 3) := by decide +kernel
theorem d_L_law_139 : decode code 139 = .ok (.iconst 0, 1) := by decide +kernel
theorem d_L_law_140 : decode code 140 = .ok (.ireturn, 1) := by decide +kernel
theorem d_L_law_141 : decode code 141 = .ok (.goto 539, 3) := by decide +kernel
theorem d_L_law_144 : decode code 144 = .ok (.aload_n 1, 1) := by decide +kernel
theorem d_L_law_145 : decode code 145 = .ok (.aload_n 0, 1) := by decide +kernel
theorem d_L_law_146 : decode code 146 = .ok (.iload 4, 2) := by decide +kernel
theorem d_L_law_148 : decode code 148 = .ok (.iconst 1, 1) := by decide +kernel
theorem d_L_law_149 : decode code 149 = .ok (.iadd, 1) := by decide +kernel
theorem d_L_law_150 : decode code 150 = .ok (.iaload, 1) := by decide +kernel
theorem d_L_law_151 : decode code 151 = .ok (.aload_n 0, 1) := by decide +kernel
theorem d_L_law_152 : decode code 152 = .ok (.iload 4, 2) := by decide +kernel
theorem d_L_law_154 : decode code 154 = .ok (.iconst 2, 1) := by decide +kernel
theorem d_L_law_155 : decode code 155 = .ok (.iadd, 1) := by decide +kernel
theorem d_L_law_156 : decode code 156 = .ok (.iaload, 1) := by decide +kernel
theorem d_L_law_157 : decode code 157 = .ok (.aload_n 0, 1) := by decide +kernel
theorem d_L_law_158 : decode code 158 = .ok (.iload 4, 2) := by decide +kernel
theorem d_L_law_160 : decode code 160 = .ok (.iconst 3, 1) := by decide +kernel
theorem d_L_law_161 : decode code 161 = .ok (.iadd, 1) := by decide +kernel
theorem d_L_law_162 : decode code 162 = .ok (.iaload, 1) := by decide +kernel
theorem d_L_law_163 : decode code 163 = .ok (.aload_n 3, 1) := by decide +kernel
theorem d_L_law_164 : decode code 164 = .ok (.invokestatic 63, 3) := by decide +kernel
theorem d_L_law_167 : decode code 167 = .ok (.istore 5, 2) := by decide +kernel
theorem d_L_law_169 : decode code 169 = .ok (.aload_n 2, 1) := by decide +kernel
theorem d_L_law_170 : decode code 170 = .ok (.aload_n 0, 1) := by decide +kernel
theorem d_L_law_171 : decode code 171 = .ok (.iload 4, 2) := by decide +kernel
theorem d_L_law_173 : decode code 173 = .ok (.iconst 1, 1) := by decide +kernel
theorem d_L_law_174 : decode code 174 = .ok (.iadd, 1) := by decide +kernel
theorem d_L_law_175 : decode code 175 = .ok (.iaload, 1) := by decide +kernel
theorem d_L_law_176 : decode code 176 = .ok (.aload_n 0, 1) := by decide +kernel
theorem d_L_law_177 : decode code 177 = .ok (.iload 4, 2) := by decide +kernel
theorem d_L_law_179 : decode code 179 = .ok (.iconst 2, 1) := by decide +kernel
theorem d_L_law_180 : decode code 180 = .ok (.iadd, 1) := by decide +kernel
theorem d_L_law_181 : decode code 181 = .ok (.iaload, 1) := by decide +kernel
theorem d_L_law_182 : decode code 182 = .ok (.aload_n 0, 1) := by decide +kernel
theorem d_L_law_183 : decode code 183 = .ok (.iload 4, 2) := by decide +kernel
theorem d_L_law_185 : decode code 185 = .ok (.iconst 3, 1) := by decide +kernel
theorem d_L_law_186 : decode code 186 = .ok (.iadd, 1) := by decide +kernel
theorem d_L_law_187 : decode code 187 = .ok (.iaload, 1) := by decide +kernel
theorem d_L_law_188 : decode code 188 = .ok (.invokevirtual 66, 3) := by decide +kernel
theorem d_L_law_191 : decode code 191 = .ok (.istore 6, 2) := by decide +kernel
theorem d_L_law_193 : decode code 193 = .ok (.aload_n 2, 1) := by decide +kernel
theorem d_L_law_194 : decode code 194 = .ok (.invokevirtual 59, 3) := by decide +kernel
theorem d_L_law_197 : decode code 197 = .ok (.iload 5, 2) := by decide +kernel
theorem d_L_law_199 : decode code 199 = .ok (.if_icmp .eq 5, 3) := by decide +kernel
theorem d_L_law_202 : decode code 202 = .ok (.iconst 0, 1) := by decide +kernel
theorem d_L_law_203 : decode code 203 = .ok (.ireturn, 1) := by decide +kernel
theorem d_L_law_204 : decode code 204 = .ok (.iload 5, 2) := by decide +kernel
theorem d_L_law_206 : decode code 206 = .ok (.ifCond .ne 15, 3) := by decide +kernel
theorem d_L_law_209 : decode code 209 = .ok (.aload_n 3, 1) := by decide +kernel
theorem d_L_law_210 : decode code 210 = .ok (.iconst 0, 1) := by decide +kernel
theorem d_L_law_211 : decode code 211 = .ok (.laload, 1) := by decide +kernel
theorem d_L_law_212 : decode code 212 = .ok (.iload 6, 2) := by decide +kernel
theorem d_L_law_214 : decode code 214 = .ok (.i2l, 1) := by decide +kernel
theorem d_L_law_215 : decode code 215 = .ok (.lcmp, 1) := by decide +kernel
theorem d_L_law_216 : decode code 216 = .ok (.ifCond .eq 5, 3) := by decide +kernel
theorem d_L_law_219 : decode code 219 = .ok (.iconst 0, 1) := by decide +kernel
theorem d_L_law_220 : decode code 220 = .ok (.ireturn, 1) := by decide +kernel
theorem d_L_law_221 : decode code 221 = .ok (.goto 459, 3) := by decide +kernel
theorem d_L_law_224 : decode code 224 = .ok (.aload_n 1, 1) := by decide +kernel
theorem d_L_law_225 : decode code 225 = .ok (.aload_n 0, 1) := by decide +kernel
theorem d_L_law_226 : decode code 226 = .ok (.iload 4, 2) := by decide +kernel
theorem d_L_law_228 : decode code 228 = .ok (.iconst 1, 1) := by decide +kernel
theorem d_L_law_229 : decode code 229 = .ok (.iadd, 1) := by decide +kernel
theorem d_L_law_230 : decode code 230 = .ok (.iaload, 1) := by decide +kernel
theorem d_L_law_231 : decode code 231 = .ok (.aload_n 0, 1) := by decide +kernel
theorem d_L_law_232 : decode code 232 = .ok (.iload 4, 2) := by decide +kernel
theorem d_L_law_234 : decode code 234 = .ok (.iconst 2, 1) := by decide +kernel
theorem d_L_law_235 : decode code 235 = .ok (.iadd, 1) := by decide +kernel
theorem d_L_law_236 : decode code 236 = .ok (.iaload, 1) := by decide +kernel
theorem d_L_law_237 : decode code 237 = .ok (.aload_n 0, 1) := by decide +kernel
theorem d_L_law_238 : decode code 238 = .ok (.iload 4, 2) := by decide +kernel
theorem d_L_law_240 : decode code 240 = .ok (.iconst 3, 1) := by decide +kernel
theorem d_L_law_241 : decode code 241 = .ok (.iadd, 1) := by decide +kernel
theorem d_L_law_242 : decode code 242 = .ok (.iaload, 1) := by decide +kernel
theorem d_L_law_243 : decode code 243 = .ok (.invokestatic 67, 3) := by decide +kernel
theorem d_L_law_246 : decode code 246 = .ok (.istore 5, 2) := by decide +kernel
theorem d_L_law_248 : decode code 248 = .ok (.aload_n 2, 1) := by decide +kernel
theorem d_L_law_249 : decode code 249 = .ok (.aload_n 0, 1) := by decide +kernel
theorem d_L_law_250 : decode code 250 = .ok (.iload 4, 2) := by decide +kernel
theorem d_L_law_252 : decode code 252 = .ok (.iconst 1, 1) := by decide +kernel
theorem d_L_law_253 : decode code 253 = .ok (.iadd, 1) := by decide +kernel
theorem d_L_law_254 : decode code 254 = .ok (.iaload, 1) := by decide +kernel
theorem d_L_law_255 : decode code 255 = .ok (.aload_n 0, 1) := by decide +kernel
theorem d_L_law_256 : decode code 256 = .ok (.iload 4, 2) := by decide +kernel
theorem d_L_law_258 : decode code 258 = .ok (.iconst 2, 1) := by decide +kernel
theorem d_L_law_259 : decode code 259 = .ok (.iadd, 1) := by decide +kernel
theorem d_L_law_260 : decode code 260 = .ok (.iaload, 1) := by decide +kernel
theorem d_L_law_261 : decode code 261 = .ok (.aload_n 0, 1) := by decide +kernel
theorem d_L_law_262 : decode code 262 = .ok (.iload 4, 2) := by decide +kernel
theorem d_L_law_264 : decode code 264 = .ok (.iconst 3, 1) := by decide +kernel
theorem d_L_law_265 : decode code 265 = .ok (.iadd, 1) := by decide +kernel
theorem d_L_law_266 : decode code 266 = .ok (.iaload, 1) := by decide +kernel
theorem d_L_law_267 : decode code 267 = .ok (.invokevirtual 70, 3) := by decide +kernel
theorem d_L_law_270 : decode code 270 = .ok (.aload_n 2, 1) := by decide +kernel
theorem d_L_law_271 : decode code 271 = .ok (.invokevirtual 59, 3) := by decide +kernel
theorem d_L_law_274 : decode code 274 = .ok (.iload 5, 2) := by decide +kernel
theorem d_L_law_276 : decode code 276 = .ok (.if_icmp .eq 5, 3) := by decide +kernel
theorem d_L_law_279 : decode code 279 = .ok (.iconst 0, 1) := by decide +kernel
theorem d_L_law_280 : decode code 280 = .ok (.ireturn, 1) := by decide +kernel
theorem d_L_law_281 : decode code 281 = .ok (.goto 399, 3) := by decide +kernel
theorem d_L_law_284 : decode code 284 = .ok (.aload_n 1, 1) := by decide +kernel
theorem d_L_law_285 : decode code 285 = .ok (.aload_n 0, 1) := by decide +kernel
theorem d_L_law_286 : decode code 286 = .ok (.iload 4, 2) := by decide +kernel
theorem d_L_law_288 : decode code 288 = .ok (.iconst 1, 1) := by decide +kernel
theorem d_L_law_289 : decode code 289 = .ok (.iadd, 1) := by decide +kernel
theorem d_L_law_290 : decode code 290 = .ok (.iaload, 1) := by decide +kernel
theorem d_L_law_291 : decode code 291 = .ok (.aload_n 3, 1) := by decide +kernel
theorem d_L_law_292 : decode code 292 = .ok (.invokestatic 71, 3) := by decide +kernel
theorem d_L_law_295 : decode code 295 = .ok (.istore 5, 2) := by decide +kernel
theorem d_L_law_297 : decode code 297 = .ok (.aload_n 2, 1) := by decide +kernel
theorem d_L_law_298 : decode code 298 = .ok (.aload_n 0, 1) := by decide +kernel
theorem d_L_law_299 : decode code 299 = .ok (.iload 4, 2) := by decide +kernel
theorem d_L_law_301 : decode code 301 = .ok (.iconst 1, 1) := by decide +kernel
theorem d_L_law_302 : decode code 302 = .ok (.iadd, 1) := by decide +kernel
theorem d_L_law_303 : decode code 303 = .ok (.iaload, 1) := by decide +kernel
theorem d_L_law_304 : decode code 304 = .ok (.invokevirtual 74, 3) := by decide +kernel
theorem d_L_law_307 : decode code 307 = .ok (.istore 6, 2) := by decide +kernel
theorem d_L_law_309 : decode code 309 = .ok (.aload_n 2, 1) := by decide +kernel
theorem d_L_law_310 : decode code 310 = .ok (.invokevirtual 59, 3) := by decide +kernel
theorem d_L_law_313 : decode code 313 = .ok (.iload 5, 2) := by decide +kernel
theorem d_L_law_315 : decode code 315 = .ok (.if_icmp .eq 5, 3) := by decide +kernel
theorem d_L_law_318 : decode code 318 = .ok (.iconst 0, 1) := by decide +kernel
theorem d_L_law_319 : decode code 319 = .ok (.ireturn, 1) := by decide +kernel
theorem d_L_law_320 : decode code 320 = .ok (.iload 5, 2) := by decide +kernel
theorem d_L_law_322 : decode code 322 = .ok (.ifCond .ne 15, 3) := by decide +kernel
theorem d_L_law_325 : decode code 325 = .ok (.aload_n 3, 1) := by decide +kernel
theorem d_L_law_326 : decode code 326 = .ok (.iconst 0, 1) := by decide +kernel
theorem d_L_law_327 : decode code 327 = .ok (.laload, 1) := by decide +kernel
theorem d_L_law_328 : decode code 328 = .ok (.iload 6, 2) := by decide +kernel
theorem d_L_law_330 : decode code 330 = .ok (.i2l, 1) := by decide +kernel
theorem d_L_law_331 : decode code 331 = .ok (.lcmp, 1) := by decide +kernel
theorem d_L_law_332 : decode code 332 = .ok (.ifCond .eq 5, 3) := by decide +kernel
theorem d_L_law_335 : decode code 335 = .ok (.iconst 0, 1) := by decide +kernel
theorem d_L_law_336 : decode code 336 = .ok (.ireturn, 1) := by decide +kernel
theorem d_L_law_337 : decode code 337 = .ok (.goto 343, 3) := by decide +kernel
theorem d_L_law_340 : decode code 340 = .ok (.aload_n 1, 1) := by decide +kernel
theorem d_L_law_341 : decode code 341 = .ok (.invokevirtual 75, 3) := by decide +kernel
theorem d_L_law_344 : decode code 344 = .ok (.aload_n 2, 1) := by decide +kernel
theorem d_L_law_345 : decode code 345 = .ok (.invokevirtual 78, 3) := by decide +kernel
theorem d_L_law_348 : decode code 348 = .ok (.goto 332, 3) := by decide +kernel
theorem d_L_law_351 : decode code 351 = .ok (.aload_n 1, 1) := by decide +kernel
theorem d_L_law_352 : decode code 352 = .ok (.aload_n 0, 1) := by decide +kernel
theorem d_L_law_353 : decode code 353 = .ok (.iload 4, 2) := by decide +kernel
theorem d_L_law_355 : decode code 355 = .ok (.iconst 1, 1) := by decide +kernel
theorem d_L_law_356 : decode code 356 = .ok (.iadd, 1) := by decide +kernel
theorem d_L_law_357 : decode code 357 = .ok (.iaload, 1) := by decide +kernel
theorem d_L_law_358 : decode code 358 = .ok (.aload_n 3, 1) := by decide +kernel
theorem d_L_law_359 : decode code 359 = .ok (.invokestatic 79, 3) := by decide +kernel
theorem d_L_law_362 : decode code 362 = .ok (.istore 5, 2) := by decide +kernel
theorem d_L_law_364 : decode code 364 = .ok (.aload_n 2, 1) := by decide +kernel
theorem d_L_law_365 : decode code 365 = .ok (.aload_n 0, 1) := by decide +kernel
theorem d_L_law_366 : decode code 366 = .ok (.iload 4, 2) := by decide +kernel
theorem d_L_law_368 : decode code 368 = .ok (.iconst 1, 1) := by decide +kernel
theorem d_L_law_369 : decode code 369 = .ok (.iadd, 1) := by decide +kernel
theorem d_L_law_370 : decode code 370 = .ok (.iaload, 1) := by decide +kernel
theorem d_L_law_371 : decode code 371 = .ok (.invokevirtual 81, 3) := by decide +kernel
theorem d_L_law_374 : decode code 374 = .ok (.istore 6, 2) := by decide +kernel
theorem d_L_law_376 : decode code 376 = .ok (.aload_n 2, 1) := by decide +kernel
theorem d_L_law_377 : decode code 377 = .ok (.invokevirtual 59, 3) := by decide +kernel
theorem d_L_law_380 : decode code 380 = .ok (.iload 5, 2) := by decide +kernel
theorem d_L_law_382 : decode code 382 = .ok (.if_icmp .eq 5, 3) := by decide +kernel
theorem d_L_law_385 : decode code 385 = .ok (.iconst 0, 1) := by decide +kernel
theorem d_L_law_386 : decode code 386 = .ok (.ireturn, 1) := by decide +kernel
theorem d_L_law_387 : decode code 387 = .ok (.iload 5, 2) := by decide +kernel
theorem d_L_law_389 : decode code 389 = .ok (.ifCond .ne 15, 3) := by decide +kernel
theorem d_L_law_392 : decode code 392 = .ok (.aload_n 3, 1) := by decide +kernel
theorem d_L_law_393 : decode code 393 = .ok (.iconst 0, 1) := by decide +kernel
theorem d_L_law_394 : decode code 394 = .ok (.laload, 1) := by decide +kernel
theorem d_L_law_395 : decode code 395 = .ok (.iload 6, 2) := by decide +kernel
theorem d_L_law_397 : decode code 397 = .ok (.i2l, 1) := by decide +kernel
theorem d_L_law_398 : decode code 398 = .ok (.lcmp, 1) := by decide +kernel
theorem d_L_law_399 : decode code 399 = .ok (.ifCond .eq 5, 3) := by decide +kernel
theorem d_L_law_402 : decode code 402 = .ok (.iconst 0, 1) := by decide +kernel
theorem d_L_law_403 : decode code 403 = .ok (.ireturn, 1) := by decide +kernel
theorem d_L_law_404 : decode code 404 = .ok (.goto 276, 3) := by decide +kernel
theorem d_L_law_407 : decode code 407 = .ok (.aload_n 1, 1) := by decide +kernel
theorem d_L_law_408 : decode code 408 = .ok (.aload_n 0, 1) := by decide +kernel
theorem d_L_law_409 : decode code 409 = .ok (.iload 4, 2) := by decide +kernel
theorem d_L_law_411 : decode code 411 = .ok (.iconst 1, 1) := by decide +kernel
theorem d_L_law_412 : decode code 412 = .ok (.iadd, 1) := by decide +kernel
theorem d_L_law_413 : decode code 413 = .ok (.iaload, 1) := by decide +kernel
theorem d_L_law_414 : decode code 414 = .ok (.aload_n 0, 1) := by decide +kernel
theorem d_L_law_415 : decode code 415 = .ok (.iload 4, 2) := by decide +kernel
theorem d_L_law_417 : decode code 417 = .ok (.iconst 2, 1) := by decide +kernel
theorem d_L_law_418 : decode code 418 = .ok (.iadd, 1) := by decide +kernel
theorem d_L_law_419 : decode code 419 = .ok (.iaload, 1) := by decide +kernel
theorem d_L_law_420 : decode code 420 = .ok (.aload_n 0, 1) := by decide +kernel
theorem d_L_law_421 : decode code 421 = .ok (.iload 4, 2) := by decide +kernel
theorem d_L_law_423 : decode code 423 = .ok (.iconst 3, 1) := by decide +kernel
theorem d_L_law_424 : decode code 424 = .ok (.iadd, 1) := by decide +kernel
theorem d_L_law_425 : decode code 425 = .ok (.iaload, 1) := by decide +kernel
theorem d_L_law_426 : decode code 426 = .ok (.aload_n 3, 1) := by decide +kernel
theorem d_L_law_427 : decode code 427 = .ok (.invokestatic 82, 3) := by decide +kernel
theorem d_L_law_430 : decode code 430 = .ok (.istore 5, 2) := by decide +kernel
theorem d_L_law_432 : decode code 432 = .ok (.aload_n 2, 1) := by decide +kernel
theorem d_L_law_433 : decode code 433 = .ok (.aload_n 0, 1) := by decide +kernel
theorem d_L_law_434 : decode code 434 = .ok (.iload 4, 2) := by decide +kernel
theorem d_L_law_436 : decode code 436 = .ok (.iconst 1, 1) := by decide +kernel
theorem d_L_law_437 : decode code 437 = .ok (.iadd, 1) := by decide +kernel
theorem d_L_law_438 : decode code 438 = .ok (.iaload, 1) := by decide +kernel
theorem d_L_law_439 : decode code 439 = .ok (.aload_n 0, 1) := by decide +kernel
theorem d_L_law_440 : decode code 440 = .ok (.iload 4, 2) := by decide +kernel
theorem d_L_law_442 : decode code 442 = .ok (.iconst 2, 1) := by decide +kernel
theorem d_L_law_443 : decode code 443 = .ok (.iadd, 1) := by decide +kernel
theorem d_L_law_444 : decode code 444 = .ok (.iaload, 1) := by decide +kernel
theorem d_L_law_445 : decode code 445 = .ok (.aload_n 0, 1) := by decide +kernel
theorem d_L_law_446 : decode code 446 = .ok (.iload 4, 2) := by decide +kernel
theorem d_L_law_448 : decode code 448 = .ok (.iconst 3, 1) := by decide +kernel
theorem d_L_law_449 : decode code 449 = .ok (.iadd, 1) := by decide +kernel
theorem d_L_law_450 : decode code 450 = .ok (.iaload, 1) := by decide +kernel
theorem d_L_law_451 : decode code 451 = .ok (.invokevirtual 84, 3) := by decide +kernel
theorem d_L_law_454 : decode code 454 = .ok (.istore 6, 2) := by decide +kernel
theorem d_L_law_456 : decode code 456 = .ok (.aload_n 2, 1) := by decide +kernel
theorem d_L_law_457 : decode code 457 = .ok (.invokevirtual 59, 3) := by decide +kernel
theorem d_L_law_460 : decode code 460 = .ok (.iload 5, 2) := by decide +kernel
theorem d_L_law_462 : decode code 462 = .ok (.if_icmp .eq 5, 3) := by decide +kernel
theorem d_L_law_465 : decode code 465 = .ok (.iconst 0, 1) := by decide +kernel
theorem d_L_law_466 : decode code 466 = .ok (.ireturn, 1) := by decide +kernel
theorem d_L_law_467 : decode code 467 = .ok (.iload 5, 2) := by decide +kernel
theorem d_L_law_469 : decode code 469 = .ok (.ifCond .ne 15, 3) := by decide +kernel
theorem d_L_law_472 : decode code 472 = .ok (.aload_n 3, 1) := by decide +kernel
theorem d_L_law_473 : decode code 473 = .ok (.iconst 0, 1) := by decide +kernel
theorem d_L_law_474 : decode code 474 = .ok (.laload, 1) := by decide +kernel
theorem d_L_law_475 : decode code 475 = .ok (.iload 6, 2) := by decide +kernel
theorem d_L_law_477 : decode code 477 = .ok (.i2l, 1) := by decide +kernel
theorem d_L_law_478 : decode code 478 = .ok (.lcmp, 1) := by decide +kernel
theorem d_L_law_479 : decode code 479 = .ok (.ifCond .eq 5, 3) := by decide +kernel
theorem d_L_law_482 : decode code 482 = .ok (.iconst 0, 1) := by decide +kernel
theorem d_L_law_483 : decode code 483 = .ok (.ireturn, 1) := by decide +kernel
theorem d_L_law_484 : decode code 484 = .ok (.goto 196, 3) := by decide +kernel
theorem d_L_law_487 : decode code 487 = .ok (.aload_n 1, 1) := by decide +kernel
theorem d_L_law_488 : decode code 488 = .ok (.invokevirtual 85, 3) := by decide +kernel
theorem d_L_law_491 : decode code 491 = .ok (.aload_n 2, 1) := by decide +kernel
theorem d_L_law_492 : decode code 492 = .ok (.invokevirtual 88, 3) := by decide +kernel
theorem d_L_law_495 : decode code 495 = .ok (.if_icmp .eq 185, 3) := by decide +kernel
theorem d_L_law_498 : decode code 498 = .ok (.iconst 0, 1) := by decide +kernel
theorem d_L_law_499 : decode code 499 = .ok (.ireturn, 1) := by decide +kernel
theorem d_L_law_500 : decode code 500 = .ok (.aload_n 1, 1) := by decide +kernel
theorem d_L_law_501 : decode code 501 = .ok (.aload_n 0, 1) := by decide +kernel
theorem d_L_law_502 : decode code 502 = .ok (.iload 4, 2) := by decide +kernel
theorem d_L_law_504 : decode code 504 = .ok (.iconst 1, 1) := by decide +kernel
theorem d_L_law_505 : decode code 505 = .ok (.iadd, 1) := by decide +kernel
theorem d_L_law_506 : decode code 506 = .ok (.iaload, 1) := by decide +kernel
theorem d_L_law_507 : decode code 507 = .ok (.aload_n 0, 1) := by decide +kernel
theorem d_L_law_508 : decode code 508 = .ok (.iload 4, 2) := by decide +kernel
theorem d_L_law_510 : decode code 510 = .ok (.iconst 2, 1) := by decide +kernel
theorem d_L_law_511 : decode code 511 = .ok (.iadd, 1) := by decide +kernel
theorem d_L_law_512 : decode code 512 = .ok (.iaload, 1) := by decide +kernel
theorem d_L_law_513 : decode code 513 = .ok (.aload_n 3, 1) := by decide +kernel
theorem d_L_law_514 : decode code 514 = .ok (.invokestatic 89, 3) := by decide +kernel
theorem d_L_law_517 : decode code 517 = .ok (.istore 5, 2) := by decide +kernel
theorem d_L_law_519 : decode code 519 = .ok (.aload_n 2, 1) := by decide +kernel
theorem d_L_law_520 : decode code 520 = .ok (.aload_n 0, 1) := by decide +kernel
theorem d_L_law_521 : decode code 521 = .ok (.iload 4, 2) := by decide +kernel
theorem d_L_law_523 : decode code 523 = .ok (.iconst 1, 1) := by decide +kernel
theorem d_L_law_524 : decode code 524 = .ok (.iadd, 1) := by decide +kernel
theorem d_L_law_525 : decode code 525 = .ok (.iaload, 1) := by decide +kernel
theorem d_L_law_526 : decode code 526 = .ok (.aload_n 0, 1) := by decide +kernel
theorem d_L_law_527 : decode code 527 = .ok (.iload 4, 2) := by decide +kernel
theorem d_L_law_529 : decode code 529 = .ok (.iconst 2, 1) := by decide +kernel
theorem d_L_law_530 : decode code 530 = .ok (.iadd, 1) := by decide +kernel
theorem d_L_law_531 : decode code 531 = .ok (.iaload, 1) := by decide +kernel
theorem d_L_law_532 : decode code 532 = .ok (.invokevirtual 92, 3) := by decide +kernel
theorem d_L_law_535 : decode code 535 = .ok (.istore 6, 2) := by decide +kernel
theorem d_L_law_537 : decode code 537 = .ok (.aload_n 2, 1) := by decide +kernel
theorem d_L_law_538 : decode code 538 = .ok (.invokevirtual 59, 3) := by decide +kernel
theorem d_L_law_541 : decode code 541 = .ok (.iload 5, 2) := by decide +kernel
theorem d_L_law_543 : decode code 543 = .ok (.if_icmp .eq 5, 3) := by decide +kernel
theorem d_L_law_546 : decode code 546 = .ok (.iconst 0, 1) := by decide +kernel
theorem d_L_law_547 : decode code 547 = .ok (.ireturn, 1) := by decide +kernel
theorem d_L_law_548 : decode code 548 = .ok (.iload 5, 2) := by decide +kernel
theorem d_L_law_550 : decode code 550 = .ok (.ifCond .ne 15, 3) := by decide +kernel
theorem d_L_law_553 : decode code 553 = .ok (.aload_n 3, 1) := by decide +kernel
theorem d_L_law_554 : decode code 554 = .ok (.iconst 0, 1) := by decide +kernel
theorem d_L_law_555 : decode code 555 = .ok (.laload, 1) := by decide +kernel
theorem d_L_law_556 : decode code 556 = .ok (.iload 6, 2) := by decide +kernel
theorem d_L_law_558 : decode code 558 = .ok (.i2l, 1) := by decide +kernel
theorem d_L_law_559 : decode code 559 = .ok (.lcmp, 1) := by decide +kernel
theorem d_L_law_560 : decode code 560 = .ok (.ifCond .eq 5, 3) := by decide +kernel
theorem d_L_law_563 : decode code 563 = .ok (.iconst 0, 1) := by decide +kernel
theorem d_L_law_564 : decode code 564 = .ok (.ireturn, 1) := by decide +kernel
theorem d_L_law_565 : decode code 565 = .ok (.goto 115, 3) := by decide +kernel
theorem d_L_law_568 : decode code 568 = .ok (.aload_n 1, 1) := by decide +kernel
theorem d_L_law_569 : decode code 569 = .ok (.aload_n 0, 1) := by decide +kernel
theorem d_L_law_570 : decode code 570 = .ok (.iload 4, 2) := by decide +kernel
theorem d_L_law_572 : decode code 572 = .ok (.iconst 1, 1) := by decide +kernel
theorem d_L_law_573 : decode code 573 = .ok (.iadd, 1) := by decide +kernel
theorem d_L_law_574 : decode code 574 = .ok (.iaload, 1) := by decide +kernel
theorem d_L_law_575 : decode code 575 = .ok (.aload_n 3, 1) := by decide +kernel
theorem d_L_law_576 : decode code 576 = .ok (.invokestatic 93, 3) := by decide +kernel
theorem d_L_law_579 : decode code 579 = .ok (.istore 5, 2) := by decide +kernel
theorem d_L_law_581 : decode code 581 = .ok (.aload_n 2, 1) := by decide +kernel
theorem d_L_law_582 : decode code 582 = .ok (.aload_n 0, 1) := by decide +kernel
theorem d_L_law_583 : decode code 583 = .ok (.iload 4, 2) := by decide +kernel
theorem d_L_law_585 : decode code 585 = .ok (.iconst 1, 1) := by decide +kernel
theorem d_L_law_586 : decode code 586 = .ok (.iadd, 1) := by decide +kernel
theorem d_L_law_587 : decode code 587 = .ok (.iaload, 1) := by decide +kernel
theorem d_L_law_588 : decode code 588 = .ok (.invokevirtual 95, 3) := by decide +kernel
theorem d_L_law_591 : decode code 591 = .ok (.istore 6, 2) := by decide +kernel
theorem d_L_law_593 : decode code 593 = .ok (.aload_n 2, 1) := by decide +kernel
theorem d_L_law_594 : decode code 594 = .ok (.invokevirtual 59, 3) := by decide +kernel
theorem d_L_law_597 : decode code 597 = .ok (.iload 5, 2) := by decide +kernel
theorem d_L_law_599 : decode code 599 = .ok (.if_icmp .eq 5, 3) := by decide +kernel
theorem d_L_law_602 : decode code 602 = .ok (.iconst 0, 1) := by decide +kernel
theorem d_L_law_603 : decode code 603 = .ok (.ireturn, 1) := by decide +kernel
theorem d_L_law_604 : decode code 604 = .ok (.iload 5, 2) := by decide +kernel
theorem d_L_law_606 : decode code 606 = .ok (.ifCond .ne 15, 3) := by decide +kernel
theorem d_L_law_609 : decode code 609 = .ok (.aload_n 3, 1) := by decide +kernel
theorem d_L_law_610 : decode code 610 = .ok (.iconst 0, 1) := by decide +kernel
theorem d_L_law_611 : decode code 611 = .ok (.laload, 1) := by decide +kernel
theorem d_L_law_612 : decode code 612 = .ok (.iload 6, 2) := by decide +kernel
theorem d_L_law_614 : decode code 614 = .ok (.i2l, 1) := by decide +kernel
theorem d_L_law_615 : decode code 615 = .ok (.lcmp, 1) := by decide +kernel
theorem d_L_law_616 : decode code 616 = .ok (.ifCond .eq 5, 3) := by decide +kernel
theorem d_L_law_619 : decode code 619 = .ok (.iconst 0, 1) := by decide +kernel
theorem d_L_law_620 : decode code 620 = .ok (.ireturn, 1) := by decide +kernel
theorem d_L_law_621 : decode code 621 = .ok (.goto 59, 3) := by decide +kernel
theorem d_L_law_624 : decode code 624 = .ok (.aload_n 1, 1) := by decide +kernel
theorem d_L_law_625 : decode code 625 = .ok (.aload_n 0, 1) := by decide +kernel
theorem d_L_law_626 : decode code 626 = .ok (.iload 4, 2) := by decide +kernel
theorem d_L_law_628 : decode code 628 = .ok (.iconst 1, 1) := by decide +kernel
theorem d_L_law_629 : decode code 629 = .ok (.iadd, 1) := by decide +kernel
theorem d_L_law_630 : decode code 630 = .ok (.iaload, 1) := by decide +kernel
theorem d_L_law_631 : decode code 631 = .ok (.aload_n 3, 1) := by decide +kernel
theorem d_L_law_632 : decode code 632 = .ok (.invokestatic 96, 3) := by decide +kernel
theorem d_L_law_635 : decode code 635 = .ok (.istore 5, 2) := by decide +kernel
theorem d_L_law_637 : decode code 637 = .ok (.aload_n 2, 1) := by decide +kernel
theorem d_L_law_638 : decode code 638 = .ok (.aload_n 0, 1) := by decide +kernel
theorem d_L_law_639 : decode code 639 = .ok (.iload 4, 2) := by decide +kernel
theorem d_L_law_641 : decode code 641 = .ok (.iconst 1, 1) := by decide +kernel
theorem d_L_law_642 : decode code 642 = .ok (.iadd, 1) := by decide +kernel
theorem d_L_law_643 : decode code 643 = .ok (.iaload, 1) := by decide +kernel
theorem d_L_law_644 : decode code 644 = .ok (.invokevirtual 98, 3) := by decide +kernel
theorem d_L_law_647 : decode code 647 = .ok (.istore 6, 2) := by decide +kernel
theorem d_L_law_649 : decode code 649 = .ok (.aload_n 2, 1) := by decide +kernel
theorem d_L_law_650 : decode code 650 = .ok (.invokevirtual 59, 3) := by decide +kernel
theorem d_L_law_653 : decode code 653 = .ok (.iload 5, 2) := by decide +kernel
theorem d_L_law_655 : decode code 655 = .ok (.if_icmp .eq 5, 3) := by decide +kernel
theorem d_L_law_658 : decode code 658 = .ok (.iconst 0, 1) := by decide +kernel
theorem d_L_law_659 : decode code 659 = .ok (.ireturn, 1) := by decide +kernel
theorem d_L_law_660 : decode code 660 = .ok (.iload 5, 2) := by decide +kernel
theorem d_L_law_662 : decode code 662 = .ok (.ifCond .ne 15, 3) := by decide +kernel
theorem d_L_law_665 : decode code 665 = .ok (.aload_n 3, 1) := by decide +kernel
theorem d_L_law_666 : decode code 666 = .ok (.iconst 0, 1) := by decide +kernel
theorem d_L_law_667 : decode code 667 = .ok (.laload, 1) := by decide +kernel
theorem d_L_law_668 : decode code 668 = .ok (.iload 6, 2) := by decide +kernel
theorem d_L_law_670 : decode code 670 = .ok (.i2l, 1) := by decide +kernel
theorem d_L_law_671 : decode code 671 = .ok (.lcmp, 1) := by decide +kernel
theorem d_L_law_672 : decode code 672 = .ok (.ifCond .eq 5, 3) := by decide +kernel
theorem d_L_law_675 : decode code 675 = .ok (.iconst 0, 1) := by decide +kernel
theorem d_L_law_676 : decode code 676 = .ok (.ireturn, 1) := by decide +kernel
theorem d_L_law_677 : decode code 677 = .ok (.goto 3, 3) := by decide +kernel
theorem d_L_law_680 : decode code 680 = .ok (.iinc 4 4, 3) := by decide +kernel
theorem d_L_law_683 : decode code 683 = .ok (.goto (-660), 3) := by decide +kernel
theorem d_L_law_686 : decode code 686 = .ok (.iconst 1, 1) := by decide +kernel
theorem d_L_law_687 : decode code 687 = .ok (.ireturn, 1) := by decide +kernel
