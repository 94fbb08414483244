/-! THE LAW's CASES, one call of the script each: from the case's first byte to the loop's step -/
theorem d_law_0 : decode code 0 = .ok (.new 8, 3) := by decide +kernel
theorem d_law_3 : decode code 3 = .ok (.dup, 1) := by decide +kernel
theorem d_law_4 : decode code 4 = .ok (.invokespecial 47, 3) := by decide +kernel
theorem d_law_7 : decode code 7 = .ok (.astore_n 1, 1) := by decide +kernel
theorem d_law_8 : decode code 8 = .ok (.new 48, 3) := by decide +kernel
theorem d_law_11 : decode code 11 = .ok (.dup, 1) := by decide +kernel
theorem d_law_12 : decode code 12 = .ok (.invokespecial 50, 3) := by decide +kernel
theorem d_law_15 : decode code 15 = .ok (.astore_n 2, 1) := by decide +kernel
theorem d_law_16 : decode code 16 = .ok (.iconst 1, 1) := by decide +kernel
theorem d_law_17 : decode code 17 = .ok (.newarray .long, 2) := by decide +kernel
theorem d_law_19 : decode code 19 = .ok (.astore_n 3, 1) := by decide +kernel
theorem d_law_20 : decode code 20 = .ok (.iconst 0, 1) := by decide +kernel
theorem d_law_21 : decode code 21 = .ok (.istore 4, 2) := by decide +kernel
theorem d_law_23 : decode code 23 = .ok (.iload 4, 2) := by decide +kernel
theorem d_law_25 : decode code 25 = .ok (.aload_n 0, 1) := by decide +kernel
theorem d_law_26 : decode code 26 = .ok (.arraylength, 1) := by decide +kernel
theorem d_law_27 : decode code 27 = .ok (.bipush 6, 2) := by decide +kernel
theorem d_law_29 : decode code 29 = .ok (.isub, 1) := by decide +kernel
theorem d_law_30 : decode code 30 = .ok (.if_icmp .gt 663, 3) := by decide +kernel
theorem d_law_33 : decode code 33 = .ok (.aload_n 0, 1) := by decide +kernel
theorem d_law_34 : decode code 34 = .ok (.iload 4, 2) := by decide +kernel
theorem d_law_36 : decode code 36 = .ok (.iaload, 1) := by decide +kernel
theorem d_law_37 : decode code 37 = .ok (.bipush 15, 2) := by decide +kernel
theorem d_law_39 : decode code 39 = .ok (.iand, 1) := by decide +kernel
theorem d_law_40 : decode code 40 = .ok (.tableswitch 647 0 11 #[64, 168, 204, 272, 316, 372, 428, 441, 454, 467, 523, 591], 64) := by decide +kernel
theorem d_law_104 : decode code 104 = .ok (.aload_n 1, 1) := by decide +kernel
theorem d_law_105 : decode code 105 = .ok (.aload_n 0, 1) := by decide +kernel
theorem d_law_106 : decode code 106 = .ok (.iload 4, 2) := by decide +kernel
theorem d_law_108 : decode code 108 = .ok (.iconst 1, 1) := by decide +kernel
theorem d_law_109 : decode code 109 = .ok (.iadd, 1) := by decide +kernel
theorem d_law_110 : decode code 110 = .ok (.iaload, 1) := by decide +kernel
theorem d_law_111 : decode code 111 = .ok (.aload_n 0, 1) := by decide +kernel
theorem d_law_112 : decode code 112 = .ok (.iload 4, 2) := by decide +kernel
theorem d_law_114 : decode code 114 = .ok (.iconst 2, 1) := by decide +kernel
theorem d_law_115 : decode code 115 = .ok (.iadd, 1) := by decide +kernel
theorem d_law_116 : decode code 116 = .ok (.iaload, 1) := by decide +kernel
theorem d_law_117 : decode code 117 = .ok (.aload_n 0, 1) := by decide +kernel
theorem d_law_118 : decode code 118 = .ok (.iload 4, 2) := by decide +kernel
theorem d_law_120 : decode code 120 = .ok (.iconst 3, 1) := by decide +kernel
theorem d_law_121 : decode code 121 = .ok (.iadd, 1) := by decide +kernel
theorem d_law_122 : decode code 122 = .ok (.iaload, 1) := by decide +kernel
theorem d_law_123 : decode code 123 = .ok (.aload_n 0, 1) := by decide +kernel
theorem d_law_124 : decode code 124 = .ok (.iload 4, 2) := by decide +kernel
theorem d_law_126 : decode code 126 = .ok (.iconst 4, 1) := by decide +kernel
theorem d_law_127 : decode code 127 = .ok (.iadd, 1) := by decide +kernel
theorem d_law_128 : decode code 128 = .ok (.iaload, 1) := by decide +kernel
theorem d_law_129 : decode code 129 = .ok (.aload_n 0, 1) := by decide +kernel
theorem d_law_130 : decode code 130 = .ok (.iload 4, 2) := by decide +kernel
theorem d_law_132 : decode code 132 = .ok (.iconst 5, 1) := by decide +kernel
theorem d_law_133 : decode code 133 = .ok (.iadd, 1) := by decide +kernel
theorem d_law_134 : decode code 134 = .ok (.iaload, 1) := by decide +kernel
theorem d_law_135 : decode code 135 = .ok (.aload_n 3, 1) := by decide +kernel
theorem d_law_136 : decode code 136 = .ok (.invokestatic 51, 3) := by decide +kernel
theorem d_law_139 : decode code 139 = .ok (.istore 5, 2) := by decide +kernel
theorem d_law_141 : decode code 141 = .ok (.aload_n 2, 1) := by decide +kernel
theorem d_law_142 : decode code 142 = .ok (.aload_n 0, 1) := by decide +kernel
theorem d_law_143 : decode code 143 = .ok (.iload 4, 2) := by decide +kernel
theorem d_law_145 : decode code 145 = .ok (.iconst 1, 1) := by decide +kernel
theorem d_law_146 : decode code 146 = .ok (.iadd, 1) := by decide +kernel
theorem d_law_147 : decode code 147 = .ok (.iaload, 1) := by decide +kernel
theorem d_law_148 : decode code 148 = .ok (.aload_n 0, 1) := by decide +kernel
theorem d_law_149 : decode code 149 = .ok (.iload 4, 2) := by decide +kernel
theorem d_law_151 : decode code 151 = .ok (.iconst 2, 1) := by decide +kernel
theorem d_law_152 : decode code 152 = .ok (.iadd, 1) := by decide +kernel
theorem d_law_153 : decode code 153 = .ok (.iaload, 1) := by decide +kernel
theorem d_law_154 : decode code 154 = .ok (.aload_n 0, 1) := by decide +kernel
theorem d_law_155 : decode code 155 = .ok (.iload 4, 2) := by decide +kernel
theorem d_law_157 : decode code 157 = .ok (.iconst 3, 1) := by decide +kernel
theorem d_law_158 : decode code 158 = .ok (.iadd, 1) := by decide +kernel
theorem d_law_159 : decode code 159 = .ok (.iaload, 1) := by decide +kernel
theorem d_law_160 : decode code 160 = .ok (.aload_n 0, 1) := by decide +kernel
theorem d_law_161 : decode code 161 = .ok (.iload 4, 2) := by decide +kernel
theorem d_law_163 : decode code 163 = .ok (.iconst 4, 1) := by decide +kernel
theorem d_law_164 : decode code 164 = .ok (.iadd, 1) := by decide +kernel
theorem d_law_165 : decode code 165 = .ok (.iaload, 1) := by decide +kernel
theorem d_law_166 : decode code 166 = .ok (.aload_n 0, 1) := by decide +kernel
theorem d_law_167 : decode code 167 = .ok (.iload 4, 2) := by decide +kernel
theorem d_law_169 : decode code 169 = .ok (.iconst 5, 1) := by decide +kernel
theorem d_law_170 : decode code 170 = .ok (.iadd, 1) := by decide +kernel
theorem d_law_171 : decode code 171 = .ok (.iaload, 1) := by decide +kernel
theorem d_law_172 : decode code 172 = .ok (.invokevirtual 56, 3) := by decide +kernel
theorem d_law_175 : decode code 175 = .ok (.istore 6, 2) := by decide +kernel
theorem d_law_177 : decode code 177 = .ok (.aload_n 2, 1) := by decide +kernel
theorem d_law_178 : decode code 178 = .ok (.invokevirtual 57, 3) := by decide +kernel
theorem d_law_181 : decode code 181 = .ok (.iload 5, 2) := by decide +kernel
theorem d_law_183 : decode code 183 = .ok (.if_icmp .eq 5, 3) := by decide +kernel
theorem d_law_186 : decode code 186 = .ok (.iconst 0, 1) := by decide +kernel
theorem d_law_187 : decode code 187 = .ok (.ireturn, 1) := by decide +kernel
theorem d_law_188 : decode code 188 = .ok (.iload 5, 2) := by decide +kernel
theorem d_law_190 : decode code 190 = .ok (.ifCond .ne 15, 3) := by decide +kernel
theorem d_law_193 : decode code 193 = .ok (.aload_n 3, 1) := by decide +kernel
theorem d_law_194 : decode code 194 = .ok (.iconst 0, 1) := by decide +kernel
theorem d_law_195 : decode code 195 = .ok (.laload, 1) := by decide +kernel
theorem d_law_196 : decode code 196 = .ok (.iload 6, 2) := by decide +kernel
theorem d_law_198 : decode code 198 = .ok (.i2l, 1) := by decide +kernel
theorem d_law_199 : decode code 199 = .ok (.lcmp, 1) := by decide +kernel
theorem d_law_200 : decode code 200 = .ok (.ifCond .eq 5, 3) := by decide +kernel
theorem d_law_203 : decode code 203 = .ok (.iconst 0, 1) := by decide +kernel
theorem d_law_204 : decode code 204 = .ok (.ireturn, 1) := by decide +kernel
theorem d_law_205 : decode code 205 = .ok (.goto 482, 3) := by decide +kernel
theorem d_law_208 : decode code 208 = .ok (.aload_n 1, 1) := by decide +kernel
theorem d_law_209 : decode code 209 = .ok (.aload_n 0, 1) := by decide +kernel
theorem d_law_210 : decode code 210 = .ok (.iload 4, 2) := by decide +kernel
theorem d_law_212 : decode code 212 = .ok (.iconst 1, 1) := by decide +kernel
theorem d_law_213 : decode code 213 = .ok (.iadd, 1) := by decide +kernel
theorem d_law_214 : decode code 214 = .ok (.iaload, 1) := by decide +kernel
theorem d_law_215 : decode code 215 = .ok (.invokestatic 60, 3) := by decide +kernel
theorem d_law_218 : decode code 218 = .ok (.istore 5, 2) := by decide +kernel
theorem d_law_220 : decode code 220 = .ok (.aload_n 2, 1) := by decide +kernel
theorem d_law_221 : decode code 221 = .ok (.aload_n 0, 1) := by decide +kernel
theorem d_law_222 : decode code 222 = .ok (.iload 4, 2) := by decide +kernel
theorem d_law_224 : decode code 224 = .ok (.iconst 1, 1) := by decide +kernel
theorem d_law_225 : decode code 225 = .ok (.iadd, 1) := by decide +kernel
theorem d_law_226 : decode code 226 = .ok (.iaload, 1) := by decide +kernel
theorem d_law_227 : decode code 227 = .ok (.invokevirtual 63, 3) := by decide +kernel
theorem d_law_230 : decode code 230 = .ok (.aload_n 2, 1) := by decide +kernel
theorem d_law_231 : decode code 231 = .ok (.invokevirtual 57, 3) := by decide +kernel
theorem d_law_234 : decode code 234 = .ok (.iload 5, 2) := by decide +kernel
theorem d_law_236 : decode code 236 = .ok (.if_icmp .eq 5, 3) := by decide +kernel
theorem d_law_239 : decode code 239 = .ok (.iconst 0, 1) := by decide +kernel
theorem d_law_240 : decode code 240 = .ok (.ireturn, 1) := by decide +kernel
theorem d_law_241 : decode code 241 = .ok (.goto 446, 3) := by decide +kernel
theorem d_law_244 : decode code 244 = .ok (.aload_n 1, 1) := by decide +kernel
theorem d_law_245 : decode code 245 = .ok (.aload_n 0, 1) := by decide +kernel
theorem d_law_246 : decode code 246 = .ok (.iload 4, 2) := by decide +kernel
theorem d_law_248 : decode code 248 = .ok (.iconst 1, 1) := by decide +kernel
theorem d_law_249 : decode code 249 = .ok (.iadd, 1) := by decide +kernel
theorem d_law_250 : decode code 250 = .ok (.iaload, 1) := by decide +kernel
theorem d_law_251 : decode code 251 = .ok (.aload_n 0, 1) := by decide +kernel
theorem d_law_252 : decode code 252 = .ok (.iload 4, 2) := by decide +kernel
theorem d_law_254 : decode code 254 = .ok (.iconst 2, 1) := by decide +kernel
theorem d_law_255 : decode code 255 = .ok (.iadd, 1) := by decide +kernel
theorem d_law_256 : decode code 256 = .ok (.iaload, 1) := by decide +kernel
theorem d_law_257 : decode code 257 = .ok (.aload_n 3, 1) := by decide +kernel
theorem d_law_258 : decode code 258 = .ok (.invokestatic 64, 3) := by decide +kernel
theorem d_law_261 : decode code 261 = .ok (.istore 5, 2) := by decide +kernel
theorem d_law_263 : decode code 263 = .ok (.aload_n 2, 1) := by decide +kernel
theorem d_law_264 : decode code 264 = .ok (.aload_n 0, 1) := by decide +kernel
theorem d_law_265 : decode code 265 = .ok (.iload 4, 2) := by decide +kernel
theorem d_law_267 : decode code 267 = .ok (.iconst 1, 1) := by decide +kernel
theorem d_law_268 : decode code 268 = .ok (.iadd, 1) := by decide +kernel
theorem d_law_269 : decode code 269 = .ok (.iaload, 1) := by decide +kernel
theorem d_law_270 : decode code 270 = .ok (.aload_n 0, 1) := by decide +kernel
theorem d_law_271 : decode code 271 = .ok (.iload 4, 2) := by decide +kernel
theorem d_law_273 : decode code 273 = .ok (.iconst 2, 1) := by decide +kernel
theorem d_law_274 : decode code 274 = .ok (.iadd, 1) := by decide +kernel
theorem d_law_275 : decode code 275 = .ok (.iaload, 1) := by decide +kernel
theorem d_law_276 : decode code 276 = .ok (.invokevirtual 67, 3) := by decide +kernel
theorem d_law_279 : decode code 279 = .ok (.istore 6, 2) := by decide +kernel
theorem d_law_281 : decode code 281 = .ok (.aload_n 2, 1) := by decide +kernel
theorem d_law_282 : decode code 282 = .ok (.invokevirtual 57, 3) := by decide +kernel
theorem d_law_285 : decode code 285 = .ok (.iload 5, 2) := by decide +kernel
theorem d_law_287 : decode code 287 = .ok (.if_icmp .eq 5, 3) := by decide +kernel
theorem d_law_290 : decode code 290 = .ok (.iconst 0, 1) := by decide +kernel
theorem d_law_291 : decode code 291 = .ok (.ireturn, 1) := by decide +kernel
theorem d_law_292 : decode code 292 = .ok (.iload 5, 2) := by decide +kernel
theorem d_law_294 : decode code 294 = .ok (.ifCond .ne 15, 3) := by decide +kernel
theorem d_law_297 : decode code 297 = .ok (.aload_n 3, 1) := by decide +kernel
theorem d_law_298 : decode code 298 = .ok (.iconst 0, 1) := by decide +kernel
theorem d_law_299 : decode code 299 = .ok (.laload, 1) := by decide +kernel
theorem d_law_300 : decode code 300 = .ok (.iload 6, 2) := by decide +kernel
theorem d_law_302 : decode code 302 = .ok (.i2l, 1) := by decide +kernel
theorem d_law_303 : decode code 303 = .ok (.lcmp, 1) := by decide +kernel
theorem d_law_304 : decode code 304 = .ok (.ifCond .eq 5, 3) := by decide +kernel
theorem d_law_307 : decode code 307 = .ok (.iconst 0, 1) := by decide +kernel
theorem d_law_308 : decode code 308 = .ok (.ireturn, 1) := by decide +kernel
theorem d_law_309 : decode code 309 = .ok (.goto 378, 3) := by decide +kernel
theorem d_law_312 : decode code 312 = .ok (.aload_n 1, 1) := by decide +kernel
theorem d_law_313 : decode code 313 = .ok (.aload_n 3, 1) := by decide +kernel
theorem d_law_314 : decode code 314 = .ok (.invokestatic 68, 3) := by decide +kernel
theorem d_law_317 : decode code 317 = .ok (.istore 5, 2) := by decide +kernel
theorem d_law_319 : decode code 319 = .ok (.aload_n 2, 1) := by decide +kernel
theorem d_law_320 : decode code 320 = .ok (.invokevirtual 71, 3) := by decide +kernel
theorem d_law_323 : decode code 323 = .ok (.istore 6, 2) := by decide +kernel
theorem d_law_325 : decode code 325 = .ok (.aload_n 2, 1) := by decide +kernel
theorem d_law_326 : decode code 326 = .ok (.invokevirtual 57, 3) := by decide +kernel
theorem d_law_329 : decode code 329 = .ok (.iload 5, 2) := by decide +kernel
theorem d_law_331 : decode code 331 = .ok (.if_icmp .eq 5, 3) := by decide +kernel
theorem d_law_334 : decode code 334 = .ok (.iconst 0, 1) := by decide +kernel
theorem d_law_335 : decode code 335 = .ok (.ireturn, 1) := by decide +kernel
theorem d_law_336 : decode code 336 = .ok (.iload 5, 2) := by decide +kernel
theorem d_law_338 : decode code 338 = .ok (.ifCond .ne 15, 3) := by decide +kernel
theorem d_law_341 : decode code 341 = .ok (.aload_n 3, 1) := by decide +kernel
theorem d_law_342 : decode code 342 = .ok (.iconst 0, 1) := by decide +kernel
theorem d_law_343 : decode code 343 = .ok (.laload, 1) := by decide +kernel
theorem d_law_344 : decode code 344 = .ok (.iload 6, 2) := by decide +kernel
theorem d_law_346 : decode code 346 = .ok (.i2l, 1) := by decide +kernel
theorem d_law_347 : decode code 347 = .ok (.lcmp, 1) := by decide +kernel
theorem d_law_348 : decode code 348 = .ok (.ifCond .eq 5, 3) := by decide +kernel
theorem d_law_351 : decode code 351 = .ok (.iconst 0, 1) := by decide +kernel
theorem d_law_352 : decode code 352 = .ok (.ireturn, 1) := by decide +kernel
theorem d_law_353 : decode code 353 = .ok (.goto 334, 3) := by decide +kernel
theorem d_law_356 : decode code 356 = .ok (.aload_n 1, 1) := by decide +kernel
theorem d_law_357 : decode code 357 = .ok (.aload_n 0, 1) := by decide +kernel
theorem d_law_358 : decode code 358 = .ok (.iload 4, 2) := by decide +kernel
theorem d_law_360 : decode code 360 = .ok (.iconst 1, 1) := by decide +kernel
theorem d_law_361 : decode code 361 = .ok (.iadd, 1) := by decide +kernel
theorem d_law_362 : decode code 362 = .ok (.iaload, 1) := by decide +kernel
theorem d_law_363 : decode code 363 = .ok (.aload_n 3, 1) := by decide +kernel
theorem d_law_364 : decode code 364 = .ok (.invokestatic 72, 3) := by decide +kernel
theorem d_law_367 : decode code 367 = .ok (.istore 5, 2) := by decide +kernel
theorem d_law_369 : decode code 369 = .ok (.aload_n 2, 1) := by decide +kernel
theorem d_law_370 : decode code 370 = .ok (.aload_n 0, 1) := by decide +kernel
theorem d_law_371 : decode code 371 = .ok (.iload 4, 2) := by decide +kernel
theorem d_law_373 : decode code 373 = .ok (.iconst 1, 1) := by decide +kernel
theorem d_law_374 : decode code 374 = .ok (.iadd, 1) := by decide +kernel
theorem d_law_375 : decode code 375 = .ok (.iaload, 1) := by decide +kernel
theorem d_law_376 : decode code 376 = .ok (.invokevirtual 75, 3) := by decide +kernel
theorem d_law_379 : decode code 379 = .ok (.istore 6, 2) := by decide +kernel
theorem d_law_381 : decode code 381 = .ok (.aload_n 2, 1) := by decide +kernel
theorem d_law_382 : decode code 382 = .ok (.invokevirtual 57, 3) := by decide +kernel
theorem d_law_385 : decode code 385 = .ok (.iload 5, 2) := by decide +kernel
theorem d_law_387 : decode code 387 = .ok (.if_icmp .eq 5, 3) := by decide +kernel
theorem d_law_390 : decode code 390 = .ok (.iconst 0, 1) := by decide +kernel
theorem d_law_391 : decode code 391 = .ok (.ireturn, 1) := by decide +kernel
theorem d_law_392 : decode code 392 = .ok (.iload 5, 2) := by decide +kernel
theorem d_law_394 : decode code 394 = .ok (.ifCond .ne 15, 3) := by decide +kernel
theorem d_law_397 : decode code 397 = .ok (.aload_n 3, 1) := by decide +kernel
theorem d_law_398 : decode code 398 = .ok (.iconst 0, 1) := by decide +kernel
theorem d_law_399 : decode code 399 = .ok (.laload, 1) := by decide +kernel
theorem d_law_400 : decode code 400 = .ok (.iload 6, 2) := by decide +kernel
theorem d_law_402 : decode code 402 = .ok (.i2l, 1) := by decide +kernel
theorem d_law_403 : decode code 403 = .ok (.lcmp, 1) := by decide +kernel
theorem d_law_404 : decode code 404 = .ok (.ifCond .eq 5, 3) := by decide +kernel
theorem d_law_407 : decode code 407 = .ok (.iconst 0, 1) := by decide +kernel
theorem d_law_408 : decode code 408 = .ok (.ireturn, 1) := by decide +kernel
theorem d_law_409 : decode code 409 = .ok (.goto 278, 3) := by decide +kernel
theorem d_law_412 : decode code 412 = .ok (.aload_n 1, 1) := by decide +kernel
theorem d_law_413 : decode code 413 = .ok (.aload_n 0, 1) := by decide +kernel
theorem d_law_414 : decode code 414 = .ok (.iload 4, 2) := by decide +kernel
theorem d_law_416 : decode code 416 = .ok (.iconst 1, 1) := by decide +kernel
theorem d_law_417 : decode code 417 = .ok (.iadd, 1) := by decide +kernel
theorem d_law_418 : decode code 418 = .ok (.iaload, 1) := by decide +kernel
theorem d_law_419 : decode code 419 = .ok (.aload_n 3, 1) := by decide +kernel
theorem d_law_420 : decode code 420 = .ok (.invokestatic 76, 3) := by decide +kernel
theorem d_law_423 : decode code 423 = .ok (.istore 5, 2) := by decide +kernel
theorem d_law_425 : decode code 425 = .ok (.aload_n 2, 1) := by decide +kernel
theorem d_law_426 : decode code 426 = .ok (.aload_n 0, 1) := by decide +kernel
theorem d_law_427 : decode code 427 = .ok (.iload 4, 2) := by decide +kernel
theorem d_law_429 : decode code 429 = .ok (.iconst 1, 1) := by decide +kernel
theorem d_law_430 : decode code 430 = .ok (.iadd, 1) := by decide +kernel
theorem d_law_431 : decode code 431 = .ok (.iaload, 1) := by decide +kernel
theorem d_law_432 : decode code 432 = .ok (.invokevirtual 78, 3) := by decide +kernel
theorem d_law_435 : decode code 435 = .ok (.istore 6, 2) := by decide +kernel
theorem d_law_437 : decode code 437 = .ok (.aload_n 2, 1) := by decide +kernel
theorem d_law_438 : decode code 438 = .ok (.invokevirtual 57, 3) := by decide +kernel
theorem d_law_441 : decode code 441 = .ok (.iload 5, 2) := by decide +kernel
theorem d_law_443 : decode code 443 = .ok (.if_icmp .eq 5, 3) := by decide +kernel
theorem d_law_446 : decode code 446 = .ok (.iconst 0, 1) := by decide +kernel
theorem d_law_447 : decode code 447 = .ok (.ireturn, 1) := by decide +kernel
theorem d_law_448 : decode code 448 = .ok (.iload 5, 2) := by decide +kernel
theorem d_law_450 : decode code 450 = .ok (.ifCond .ne 15, 3) := by decide +kernel
theorem d_law_453 : decode code 453 = .ok (.aload_n 3, 1) := by decide +kernel
theorem d_law_454 : decode code 454 = .ok (.iconst 0, 1) := by decide +kernel
theorem d_law_455 : decode code 455 = .ok (.laload, 1) := by decide +kernel
theorem d_law_456 : decode code 456 = .ok (.iload 6, 2) := by decide +kernel
theorem d_law_458 : decode code 458 = .ok (.i2l, 1) := by decide +kernel
theorem d_law_459 : decode code 459 = .ok (.lcmp, 1) := by decide +kernel
theorem d_law_460 : decode code 460 = .ok (.ifCond .eq 5, 3) := by decide +kernel
theorem d_law_463 : decode code 463 = .ok (.iconst 0, 1) := by decide +kernel
theorem d_law_464 : decode code 464 = .ok (.ireturn, 1) := by decide +kernel
theorem d_law_465 : decode code 465 = .ok (.goto 222, 3) := by decide +kernel
theorem d_law_468 : decode code 468 = .ok (.aload_n 1, 1) := by decide +kernel
theorem d_law_469 : decode code 469 = .ok (.invokevirtual 79, 3) := by decide +kernel
theorem d_law_472 : decode code 472 = .ok (.aload_n 2, 1) := by decide +kernel
theorem d_law_473 : decode code 473 = .ok (.invokevirtual 82, 3) := by decide +kernel
theorem d_law_476 : decode code 476 = .ok (.if_icmp .eq 211, 3) := by decide +kernel
theorem d_law_479 : decode code 479 = .ok (.iconst 0, 1) := by decide +kernel
theorem d_law_480 : decode code 480 = .ok (.ireturn, 1) := by decide +kernel
theorem d_law_481 : decode code 481 = .ok (.aload_n 1, 1) := by decide +kernel
theorem d_law_482 : decode code 482 = .ok (.invokevirtual 83, 3) := by decide +kernel
theorem d_law_485 : decode code 485 = .ok (.aload_n 2, 1) := by decide +kernel
theorem d_law_486 : decode code 486 = .ok (.invokevirtual 86, 3) := by decide +kernel
theorem d_law_489 : decode code 489 = .ok (.if_icmp .eq 198, 3) := by decide +kernel
theorem d_law_492 : decode code 492 = .ok (.iconst 0, 1) := by decide +kernel
theorem d_law_493 : decode code 493 = .ok (.ireturn, 1) := by decide +kernel
theorem d_law_494 : decode code 494 = .ok (.aload_n 1, 1) := by decide +kernel
theorem d_law_495 : decode code 495 = .ok (.invokevirtual 87, 3) := by decide +kernel
theorem d_law_498 : decode code 498 = .ok (.aload_n 2, 1) := by decide +kernel
theorem d_law_499 : decode code 499 = .ok (.invokevirtual 90, 3) := by decide +kernel
theorem d_law_502 : decode code 502 = .ok (.if_icmp .eq 185, 3) := by decide +kernel
theorem d_law_505 : decode code 505 = .ok (.iconst 0, 1) := by decide +kernel
theorem d_law_506 : decode code 506 = .ok (.ireturn, 1) := by decide +kernel
theorem d_law_507 : decode code 507 = .ok (.aload_n 1, 1) := by decide +kernel
theorem d_law_508 : decode code 508 = .ok (.aload_n 0, 1) := by decide +kernel
theorem d_law_509 : decode code 509 = .ok (.iload 4, 2) := by decide +kernel
theorem d_law_511 : decode code 511 = .ok (.iconst 1, 1) := by decide +kernel
theorem d_law_512 : decode code 512 = .ok (.iadd, 1) := by decide +kernel
theorem d_law_513 : decode code 513 = .ok (.iaload, 1) := by decide +kernel
theorem d_law_514 : decode code 514 = .ok (.aload_n 3, 1) := by decide +kernel
theorem d_law_515 : decode code 515 = .ok (.invokestatic 91, 3) := by decide +kernel
theorem d_law_518 : decode code 518 = .ok (.istore 5, 2) := by decide +kernel
theorem d_law_520 : decode code 520 = .ok (.aload_n 2, 1) := by decide +kernel
theorem d_law_521 : decode code 521 = .ok (.aload_n 0, 1) := by decide +kernel
theorem d_law_522 : decode code 522 = .ok (.iload 4, 2) := by decide +kernel
theorem d_law_524 : decode code 524 = .ok (.iconst 1, 1) := by decide +kernel
theorem d_law_525 : decode code 525 = .ok (.iadd, 1) := by decide +kernel
theorem d_law_526 : decode code 526 = .ok (.iaload, 1) := by decide +kernel
theorem d_law_527 : decode code 527 = .ok (.invokevirtual 93, 3) := by decide +kernel
theorem d_law_530 : decode code 530 = .ok (.istore 6, 2) := by decide +kernel
theorem d_law_532 : decode code 532 = .ok (.aload_n 2, 1) := by decide +kernel
theorem d_law_533 : decode code 533 = .ok (.invokevirtual 57, 3) := by decide +kernel
theorem d_law_536 : decode code 536 = .ok (.iload 5, 2) := by decide +kernel
theorem d_law_538 : decode code 538 = .ok (.if_icmp .eq 5, 3) := by decide +kernel
theorem d_law_541 : decode code 541 = .ok (.iconst 0, 1) := by decide +kernel
theorem d_law_542 : decode code 542 = .ok (.ireturn, 1) := by decide +kernel
theorem d_law_543 : decode code 543 = .ok (.iload 5, 2) := by decide +kernel
theorem d_law_545 : decode code 545 = .ok (.ifCond .ne 15, 3) := by decide +kernel
theorem d_law_548 : decode code 548 = .ok (.aload_n 3, 1) := by decide +kernel
theorem d_law_549 : decode code 549 = .ok (.iconst 0, 1) := by decide +kernel
theorem d_law_550 : decode code 550 = .ok (.laload, 1) := by decide +kernel
theorem d_law_551 : decode code 551 = .ok (.iload 6, 2) := by decide +kernel
theorem d_law_553 : decode code 553 = .ok (.i2l, 1) := by decide +kernel
theorem d_law_554 : decode code 554 = .ok (.lcmp, 1) := by decide +kernel
theorem d_law_555 : decode code 555 = .ok (.ifCond .eq 5, 3) := by decide +kernel
theorem d_law_558 : decode code 558 = .ok (.iconst 0, 1) := by decide +kernel
theorem d_law_559 : decode code 559 = .ok (.ireturn, 1) := by decide +kernel
theorem d_law_560 : decode code 560 = .ok (.goto 127, 3) := by decide +kernel
theorem d_law_563 : decode code 563 = .ok (.aload_n 1, 1) := by decide +kernel
theorem d_law_564 : decode code 564 = .ok (.aload_n 0, 1) := by decide +kernel
theorem d_law_565 : decode code 565 = .ok (.iload 4, 2) := by decide +kernel
theorem d_law_567 : decode code 567 = .ok (.iconst 1, 1) := by decide +kernel
theorem d_law_568 : decode code 568 = .ok (.iadd, 1) := by decide +kernel
theorem d_law_569 : decode code 569 = .ok (.iaload, 1) := by decide +kernel
theorem d_law_570 : decode code 570 = .ok (.aload_n 0, 1) := by decide +kernel
theorem d_law_571 : decode code 571 = .ok (.iload 4, 2) := by decide +kernel
theorem d_law_573 : decode code 573 = .ok (.iconst 2, 1) := by decide +kernel
theorem d_law_574 : decode code 574 = .ok (.iadd, 1) := by decide +kernel
theorem d_law_575 : decode code 575 = .ok (.iaload, 1) := by decide +kernel
theorem d_law_576 : decode code 576 = .ok (.aload_n 3, 1) := by decide +kernel
theorem d_law_577 : decode code 577 = .ok (.invokestatic 94, 3) := by decide +kernel
theorem d_law_580 : decode code 580 = .ok (.istore 5, 2) := by decide +kernel
theorem d_law_582 : decode code 582 = .ok (.aload_n 2, 1) := by decide +kernel
theorem d_law_583 : decode code 583 = .ok (.aload_n 0, 1) := by decide +kernel
theorem d_law_584 : decode code 584 = .ok (.iload 4, 2) := by decide +kernel
theorem d_law_586 : decode code 586 = .ok (.iconst 1, 1) := by decide +kernel
theorem d_law_587 : decode code 587 = .ok (.iadd, 1) := by decide +kernel
theorem d_law_588 : decode code 588 = .ok (.iaload, 1) := by decide +kernel
theorem d_law_589 : decode code 589 = .ok (.aload_n 0, 1) := by decide +kernel
theorem d_law_590 : decode code 590 = .ok (.iload 4, 2) := by decide +kernel
theorem d_law_592 : decode code 592 = .ok (.iconst 2, 1) := by decide +kernel
theorem d_law_593 : decode code 593 = .ok (.iadd, 1) := by decide +kernel
theorem d_law_594 : decode code 594 = .ok (.iaload, 1) := by decide +kernel
theorem d_law_595 : decode code 595 = .ok (.invokevirtual 96, 3) := by decide +kernel
theorem d_law_598 : decode code 598 = .ok (.istore 6, 2) := by decide +kernel
theorem d_law_600 : decode code 600 = .ok (.aload_n 2, 1) := by decide +kernel
theorem d_law_601 : decode code 601 = .ok (.invokevirtual 57, 3) := by decide +kernel
theorem d_law_604 : decode code 604 = .ok (.iload 5, 2) := by decide +kernel
theorem d_law_606 : decode code 606 = .ok (.if_icmp .eq 5, 3) := by decide +kernel
theorem d_law_609 : decode code 609 = .ok (.iconst 0, 1) := by decide +kernel
theorem d_law_610 : decode code 610 = .ok (.ireturn, 1) := by decide +kernel
theorem d_law_611 : decode code 611 = .ok (.iload 5, 2) := by decide +kernel
theorem d_law_613 : decode code 613 = .ok (.ifCond .ne 15, 3) := by decide +kernel
theorem d_law_616 : decode code 616 = .ok (.aload_n 3, 1) := by decide +kernel
theorem d_law_617 : decode code 617 = .ok (.iconst 0, 1) := by decide +kernel
theorem d_law_618 : decode code 618 = .ok (.laload, 1) := by decide +kernel
theorem d_law_619 : decode code 619 = .ok (.iload 6, 2) := by decide +kernel
theorem d_law_621 : decode code 621 = .ok (.i2l, 1) := by decide +kernel
theorem d_law_622 : decode code 622 = .ok (.lcmp, 1) := by decide +kernel
theorem d_law_623 : decode code 623 = .ok (.ifCond .eq 5, 3) := by decide +kernel
theorem d_law_626 : decode code 626 = .ok (.iconst 0, 1) := by decide +kernel
theorem d_law_627 : decode code 627 = .ok (.ireturn, 1) := by decide +kernel
theorem d_law_628 : decode code 628 = .ok (.goto 59, 3) := by decide +kernel
theorem d_law_631 : decode code 631 = .ok (.aload_n 1, 1) := by decide +kernel
theorem d_law_632 : decode code 632 = .ok (.aload_n 0, 1) := by decide +kernel
theorem d_law_633 : decode code 633 = .ok (.iload 4, 2) := by decide +kernel
theorem d_law_635 : decode code 635 = .ok (.iconst 1, 1) := by decide +kernel
theorem d_law_636 : decode code 636 = .ok (.iadd, 1) := by decide +kernel
theorem d_law_637 : decode code 637 = .ok (.iaload, 1) := by decide +kernel
theorem d_law_638 : decode code 638 = .ok (.aload_n 3, 1) := by decide +kernel
theorem d_law_639 : decode code 639 = .ok (.invokestatic 97, 3) := by decide +kernel
theorem d_law_642 : decode code 642 = .ok (.istore 5, 2) := by decide +kernel
theorem d_law_644 : decode code 644 = .ok (.aload_n 2, 1) := by decide +kernel
theorem d_law_645 : decode code 645 = .ok (.aload_n 0, 1) := by decide +kernel
theorem d_law_646 : decode code 646 = .ok (.iload 4, 2) := by decide +kernel
theorem d_law_648 : decode code 648 = .ok (.iconst 1, 1) := by decide +kernel
theorem d_law_649 : decode code 649 = .ok (.iadd, 1) := by decide +kernel
theorem d_law_650 : decode code 650 = .ok (.iaload, 1) := by decide +kernel
theorem d_law_651 : decode code 651 = .ok (.invokevirtual 99, 3) := by decide +kernel
theorem d_law_654 : decode code 654 = .ok (.istore 6, 2) := by decide +kernel
theorem d_law_656 : decode code 656 = .ok (.aload_n 2, 1) := by decide +kernel
theorem d_law_657 : decode code 657 = .ok (.invokevirtual 57, 3) := by decide +kernel
theorem d_law_660 : decode code 660 = .ok (.iload 5, 2) := by decide +kernel
theorem d_law_662 : decode code 662 = .ok (.if_icmp .eq 5, 3) := by decide +kernel
theorem d_law_665 : decode code 665 = .ok (.iconst 0, 1) := by decide +kernel
theorem d_law_666 : decode code 666 = .ok (.ireturn, 1) := by decide +kernel
theorem d_law_667 : decode code 667 = .ok (.iload 5, 2) := by decide +kernel
theorem d_law_669 : decode code 669 = .ok (.ifCond .ne 15, 3) := by decide +kernel
theorem d_law_672 : decode code 672 = .ok (.aload_n 3, 1) := by decide +kernel
theorem d_law_673 : decode code 673 = .ok (.iconst 0, 1) := by decide +kernel
theorem d_law_674 : decode code 674 = .ok (.laload, 1) := by decide +kernel
theorem d_law_675 : decode code 675 = .ok (.iload 6, 2) := by decide +kernel
theorem d_law_677 : decode code 677 = .ok (.i2l, 1) := by decide +kernel
theorem d_law_678 : decode code 678 = .ok (.lcmp, 1) := by decide +kernel
theorem d_law_679 : decode code 679 = .ok (.ifCond .eq 5, 3) := by decide +kernel
theorem d_law_682 : decode code 682 = .ok (.iconst 0, 1) := by decide +kernel
theorem d_law_683 : decode code 683 = .ok (.ireturn, 1) := by decide +kernel
theorem d_law_684 : decode code 684 = .ok (.goto 3, 3) := by decide +kernel
theorem d_law_687 : decode code 687 = .ok (.iinc 4 6, 3) := by decide +kernel
theorem d_law_690 : decode code 690 = .ok (.goto (-667), 3) := by decide +kernel
theorem d_law_693 : decode code 693 = .ok (.iconst 1, 1) := by decide +kernel
theorem d_law_694 : decode code 694 = .ok (.ireturn, 1) := by decide +kernel
theorem kw_inim : (Jvm.Cond.initialized "RotationPressModel") ∈ g_tbl := List.mem_filter.mpr ⟨List.mem_append_right (k2_sels lw_privs) (List.mem_append_left _ (List.mem_of_getElem? (l := tables_1_1) (i := 14) rfl)), rfl⟩
abbrev lvH (b qx qm q i : Nat) : List (Nat × Value) := [(4, .int (nI i)), (3, .ref q), (2, .ref qm), (1, .ref qx), (0, .ref b)]
def LW (C : gT) (b L : Nat) (xs : Nat → Int32) : Prop := gOk C code "RotationPressLaw" room_1 7 ∧ gTs C ∧ (∀ q, g_A C q → (g_s C).heap.size ≤ q) ∧ va_X b L xs (g_s C) (g_s C).heap ∧ L ≤ 3072 ∧ (g_l C).stackTraces = false
theorem CX_0 {K : Nat → ClassId} {q N : Nat} {s : ST} {w : va_W} (h : CX K q s N w) : (∃ fs, w[0]? = some (q, .inr (0, fs))) ∧ 16384 ≤ N ∧ N ≤ 436026 := by
  obtain ⟨a, ae, n, F, Fe, z, ze, rfl, rfl, hN, -⟩ := h
  exact ⟨⟨_, rfl⟩, hN.2.2.2⟩
theorem CM_0 {K : Nat → ClassId} {q : Nat} {k : Int32} {s : ST} {w : va_W} (h : CM K q s k w) : ∃ fs, w[0]? = some (q, .inr (12, fs)) := by
  obtain ⟨b, G, y, rfl, rfl, -⟩ := h
  exact ⟨_, rfl⟩
theorem gt_le {x : Int32} {c : Nat} (h : x < 0 ∨ ¬ x < 0 ∧ nI (c + 1) ≤ x) (hc : c < 2 ^ 31 - 1) : x < 0 ∨ ¬ x ≤ nI c := h.imp id (fun h9 h8 => nI_ge (a := c) (b := c + 1) (by omega) (by omega) (Int32.le_trans h9.2 h8))
theorem lv_cases (x : Int32) : (x < 1 ∨ ¬ x ≤ 9) ∨ ∃ i, 1 ≤ i ∧ i ≤ 9 ∧ x = nI i := by
  rcases le_cases x (c := 9) (by omega) with (h | h) | ⟨i, hi, rfl⟩
  · exact Or.inl (Or.inl (Int32.lt_trans h (by decide)))
  · exact Or.inl (Or.inr h)
  · by_cases h0 : i = 0
    · subst h0
      exact Or.inl (Or.inl (by decide))
    · exact Or.inr ⟨i, by omega, hi, rfl⟩
theorem pm_1 {α : Type} {a : α} {u v : List α} : (a :: (u ++ v)).Perm (v ++ (a :: u)) := List.perm_append_comm (l₁ := a :: u) (l₂ := v)
theorem pm_2 {α : Type} {a : α} {u v : List α} : (v ++ (a :: u)).Perm (a :: (u ++ v)) := pm_1.symm
/-- what the loop's step wants behind a call -/
def NXt (C : gT) (b qx qm q i : Nat) : Prop := ∀ (s2 : ST) (N2 : Nat) (wx2 wm2 : va_W) (f2 : Nat → Int64) (kk : Int32), stOk s2 → CX (g_K C) qx s2 N2 wx2 → CM (g_K C) qm s2 kk wm2 → gAt C (152 + (N2 - 16384) + (i + 6)) (398815 + 2 * (N2 - 16384) + (i + 6)) (ocell (g_K C) q f2 :: (wx2 ++ wm2)) (lvH b qx qm q i) 687 []
theorem kt_feed : (Jvm.Cond.static ({ cls := "RotationPressLaw", name := "feed", desc := "(LRotationPress;IIIII[J)I" } : Jvm.MethodName)) ∈ g_tbl := List.mem_filter.mpr ⟨List.mem_append_right (k2_sels lw_privs) (List.mem_append_right _ (List.mem_append_left _ (List.mem_of_getElem? (l := tables_1_2) (i := 209) rfl))), rfl⟩
theorem kk_feed : (Jvm.Cond.methodLink "RotationPressLaw" (51 : Nat) ({ cls := "RotationPressLaw", name := "feed", desc := "(LRotationPress;IIIII[J)I" } : Jvm.MethodName)) ∈ g_tbl := List.mem_filter.mpr ⟨List.mem_append_right (k2_sels lw_privs) (List.mem_append_right _ (List.mem_append_left _ (List.mem_of_getElem? (l := tables_1_2) (i := 208) rfl))), rfl⟩
theorem mx_feed : (Jvm.Cond.code ({ cls := "RotationPressModel", name := "feed", desc := "(IIIII)I" } : Jvm.MethodName) prog_14_method_4_code (8 : Nat) (Option.some Jvm.ClassFile.FieldType.int)) ∈ g_tbl := List.mem_filter.mpr ⟨List.mem_append_right (k2_sels lw_privs) (List.mem_append_right _ (List.mem_append_right _ (List.mem_append_right _ (List.mem_append_right _ (List.mem_append_right _ (List.mem_append_left _ (List.mem_of_getElem? (l := tables_1_6) (i := 175) rfl))))))), rfl⟩
theorem ml_feed : (Jvm.Cond.methodLink "RotationPressLaw" (56 : Nat) ({ cls := "RotationPressModel", name := "feed", desc := "(IIIII)I" } : Jvm.MethodName)) ∈ g_tbl := List.mem_filter.mpr ⟨List.mem_append_right (k2_sels lw_privs) (List.mem_append_right _ (List.mem_append_right _ (List.mem_append_right _ (List.mem_append_right _ (List.mem_append_right _ (List.mem_append_left _ (List.mem_of_getElem? (l := tables_1_6) (i := 172) rfl))))))), rfl⟩
theorem mm_feed : (Jvm.Cond.instanceMethod ({ cls := "RotationPressModel", name := "feed", desc := "(IIIII)I" } : Jvm.MethodName)) ∈ g_tbl := List.mem_filter.mpr ⟨List.mem_append_right (k2_sels lw_privs) (List.mem_append_right _ (List.mem_append_right _ (List.mem_append_right _ (List.mem_append_right _ (List.mem_append_right _ (List.mem_append_left _ (List.mem_of_getElem? (l := tables_1_6) (i := 173) rfl))))))), rfl⟩
theorem ms_feed : (Jvm.Cond.selects "RotationPressModel" ({ cls := "RotationPressModel", name := "feed", desc := "(IIIII)I" } : Jvm.MethodName) ({ cls := "RotationPressModel", name := "feed", desc := "(IIIII)I" } : Jvm.MethodName)) ∈ g_tbl := List.mem_filter.mpr ⟨List.mem_append_right (k2_sels lw_privs) (List.mem_append_right _ (List.mem_append_right _ (List.mem_append_right _ (List.mem_append_right _ (List.mem_append_right _ (List.mem_append_left _ (List.mem_of_getElem? (l := tables_1_6) (i := 174) rfl))))))), rfl⟩
theorem mx_thrown : (Jvm.Cond.code ({ cls := "RotationPressModel", name := "thrown", desc := "()I" } : Jvm.MethodName) prog_14_method_2_code (1 : Nat) (Option.some Jvm.ClassFile.FieldType.int)) ∈ g_tbl := List.mem_filter.mpr ⟨List.mem_append_right (k2_sels lw_privs) (List.mem_append_right _ (List.mem_append_right _ (List.mem_append_right _ (List.mem_append_right _ (List.mem_append_right _ (List.mem_append_left _ (List.mem_of_getElem? (l := tables_1_6) (i := 171) rfl))))))), rfl⟩
theorem ml_thrown : (Jvm.Cond.methodLink "RotationPressLaw" (57 : Nat) ({ cls := "RotationPressModel", name := "thrown", desc := "()I" } : Jvm.MethodName)) ∈ g_tbl := List.mem_filter.mpr ⟨List.mem_append_right (k2_sels lw_privs) (List.mem_append_right _ (List.mem_append_right _ (List.mem_append_right _ (List.mem_append_right _ (List.mem_append_right _ (List.mem_append_left _ (List.mem_of_getElem? (l := tables_1_6) (i := 168) rfl))))))), rfl⟩
theorem mm_thrown : (Jvm.Cond.instanceMethod ({ cls := "RotationPressModel", name := "thrown", desc := "()I" } : Jvm.MethodName)) ∈ g_tbl := List.mem_filter.mpr ⟨List.mem_append_right (k2_sels lw_privs) (List.mem_append_right _ (List.mem_append_right _ (List.mem_append_right _ (List.mem_append_right _ (List.mem_append_right _ (List.mem_append_left _ (List.mem_of_getElem? (l := tables_1_6) (i := 169) rfl))))))), rfl⟩
theorem ms_thrown : (Jvm.Cond.selects "RotationPressModel" ({ cls := "RotationPressModel", name := "thrown", desc := "()I" } : Jvm.MethodName) ({ cls := "RotationPressModel", name := "thrown", desc := "()I" } : Jvm.MethodName)) ∈ g_tbl := List.mem_filter.mpr ⟨List.mem_append_right (k2_sels lw_privs) (List.mem_append_right _ (List.mem_append_right _ (List.mem_append_right _ (List.mem_append_right _ (List.mem_append_right _ (List.mem_append_left _ (List.mem_of_getElem? (l := tables_1_6) (i := 170) rfl))))))), rfl⟩
theorem L_feed {C : gT} {b L : Nat} {xs : Nat → Int32} (hL : LW C b L xs) {q qx qm i N k n : Nat} {kk : Int32} {f : Nat → Int64} {wx wm : va_W} {s : ST} (hi : i + 6 ≤ L) (hs : stOk s) (hx : CX (g_K C) qx s N wx) (hm : CM (g_K C) qm s kk wm) (hk : k = 152 + (N - 16384) + i) (hn : n = 398815 + 2 * (N - 16384) + i) (nx : NXt C b qx qm q i) (hc : s.F ≤ 10220) : gAt C k n (ocell (g_K C) q f :: (wx ++ wm)) (lvH b qx qm q i) 104 [] := by
  obtain ⟨hC, hTs, hA, hX, hL9, hst⟩ := hL
  obtain ⟨⟨fs, hq⟩, hN1, hN2⟩ := CX_0 hx
  obtain ⟨fm, hqm⟩ := CM_0 hm
  have hO := Ox_feed (g_l C) (g_D C) (g_K C) (xs (i + 1)) (xs (i + 2)) (xs (i + 3)) (xs (i + 4)) (xs (i + 5)) hx hc
  obtain ⟨rm, N2, ⟨c1, c2⟩, ⟨r1, r2⟩, ⟨r3, r4⟩, hMx⟩ := hO
  have hW := w_feed q f (xs (i + 1)) (xs (i + 2)) (xs (i + 3)) (xs (i + 4)) (xs (i + 5)) { frames := 30, cells := N2 - N, slots := 2 * (N2 - N), locals := 1200 } hMx hq ⟨(show rm.frames + 1 ≤ 30 by omega), (show 8 + (6 + 11) + rm.locals ≤ 1200 by omega)⟩ r3 r4
  have hO2 := Om_feed (g_l C) (g_D C) (g_K C) (xs (i + 1)) (xs (i + 2)) (xs (i + 3)) (xs (i + 4)) (xs (i + 5)) hm hc
  obtain ⟨rm2, ⟨e1, e2⟩, ⟨e3, e4⟩, hMm⟩ := hO2
  refine g_aload_n 104 hC (j := 3) (hj := rfl) (hd := d_law_104) ?_
  refine g_aload_n 105 hC (j := 4) (hj := rfl) (hd := d_law_105) ?_
  refine g_iload 106 hC (j := 0) (hj := rfl) (hd := d_law_106) ?_
  refine g_iconst 108 hC (1 : Int32) (by decide) d_law_108 ?_
  refine g_iadd 109 hC d_law_109 ?_
  refine g_xald 110 hC hA hX (i + 1) (nI_add i 1) (by omega) (by omega) d_law_110 ?_
  refine g_aload_n 111 hC (j := 4) (hj := rfl) (hd := d_law_111) ?_
  refine g_iload 112 hC (j := 0) (hj := rfl) (hd := d_law_112) ?_
  refine g_iconst 114 hC (2 : Int32) (by decide) d_law_114 ?_
  refine g_iadd 115 hC d_law_115 ?_
  refine g_xald 116 hC hA hX (i + 2) (nI_add i 2) (by omega) (by omega) d_law_116 ?_
  refine g_aload_n 117 hC (j := 4) (hj := rfl) (hd := d_law_117) ?_
  refine g_iload 118 hC (j := 0) (hj := rfl) (hd := d_law_118) ?_
  refine g_iconst 120 hC (3 : Int32) (by decide) d_law_120 ?_
  refine g_iadd 121 hC d_law_121 ?_
  refine g_xald 122 hC hA hX (i + 3) (nI_add i 3) (by omega) (by omega) d_law_122 ?_
  refine g_aload_n 123 hC (j := 4) (hj := rfl) (hd := d_law_123) ?_
  refine g_iload 124 hC (j := 0) (hj := rfl) (hd := d_law_124) ?_
  refine g_iconst 126 hC (4 : Int32) (by decide) d_law_126 ?_
  refine g_iadd 127 hC d_law_127 ?_
  refine g_xald 128 hC hA hX (i + 4) (nI_add i 4) (by omega) (by omega) d_law_128 ?_
  refine g_aload_n 129 hC (j := 4) (hj := rfl) (hd := d_law_129) ?_
  refine g_iload 130 hC (j := 0) (hj := rfl) (hd := d_law_130) ?_
  refine g_iconst 132 hC (5 : Int32) (by decide) d_law_132 ?_
  refine g_iadd 133 hC d_law_133 ?_
  refine g_xald 134 hC hA hX (i + 5) (nI_add i 5) (by omega) (by omega) d_law_134 ?_
  refine g_aload_n 135 hC (j := 1) (hj := rfl) (hd := d_law_135) ?_
  refine a_callST 136 hC hTs hW kv_feed kw_inil kk_feed kt_feed 7 rfl (by decide +kernel) ⟨(show 30 + 1 ≤ 2048 by omega), (show 8 + (_ + 11) + 1200 ≤ 84000 by omega)⟩ rfl (Nat.le_of_ble_eq_true rfl) (k + (N2 - N)) (n + 2 * (N2 - N)) (Nat.le_refl _) (Nat.le_refl _) (show _ ≤ 601024 by omega) (show _ ≤ 7293034 by omega) d_law_136 (fun x r hr => ?_)
  obtain ⟨wx2, hx2⟩ := x
  have hr : r = 0 := hr
  subst hr
  refine g_istore 139 hC _ (by decide) rfl d_law_139 ?_
  refine g_aload_n 141 hC (j := 3) (hj := rfl) (hd := d_law_141) ?_
  refine g_aload_n 142 hC (j := 5) (hj := rfl) (hd := d_law_142) ?_
  refine g_iload 143 hC (j := 1) (hj := rfl) (hd := d_law_143) ?_
  refine g_iconst 145 hC (1 : Int32) (by decide) d_law_145 ?_
  refine g_iadd 146 hC d_law_146 ?_
  refine g_xald 147 hC hA hX (i + 1) (nI_add i 1) (by omega) (by omega) d_law_147 ?_
  refine g_aload_n 148 hC (j := 5) (hj := rfl) (hd := d_law_148) ?_
  refine g_iload 149 hC (j := 1) (hj := rfl) (hd := d_law_149) ?_
  refine g_iconst 151 hC (2 : Int32) (by decide) d_law_151 ?_
  refine g_iadd 152 hC d_law_152 ?_
  refine g_xald 153 hC hA hX (i + 2) (nI_add i 2) (by omega) (by omega) d_law_153 ?_
  refine g_aload_n 154 hC (j := 5) (hj := rfl) (hd := d_law_154) ?_
  refine g_iload 155 hC (j := 1) (hj := rfl) (hd := d_law_155) ?_
  refine g_iconst 157 hC (3 : Int32) (by decide) d_law_157 ?_
  refine g_iadd 158 hC d_law_158 ?_
  refine g_xald 159 hC hA hX (i + 3) (nI_add i 3) (by omega) (by omega) d_law_159 ?_
  refine g_aload_n 160 hC (j := 5) (hj := rfl) (hd := d_law_160) ?_
  refine g_iload 161 hC (j := 1) (hj := rfl) (hd := d_law_161) ?_
  refine g_iconst 163 hC (4 : Int32) (by decide) d_law_163 ?_
  refine g_iadd 164 hC d_law_164 ?_
  refine g_xald 165 hC hA hX (i + 4) (nI_add i 4) (by omega) (by omega) d_law_165 ?_
  refine g_aload_n 166 hC (j := 5) (hj := rfl) (hd := d_law_166) ?_
  refine g_iload 167 hC (j := 1) (hj := rfl) (hd := d_law_167) ?_
  refine g_iconst 169 hC (5 : Int32) (by decide) d_law_169 ?_
  refine g_iadd 170 hC d_law_170 ?_
  refine g_xald 171 hC hA hX (i + 5) (nI_add i 5) (by omega) (by omega) d_law_171 ?_
  refine g_perm (ws2 := wm ++ (ocell (g_K C) q (vp_updL f 0 (nI (s.F + 20)).toInt64) :: wx2)) pm_1 ?_
  refine a_callVi 172 hC hMm mx_feed kw_inim ml_feed mm_feed ms_feed 5 rfl (by decide +kernel) ⟨(show _ + 1 ≤ 2048 by omega), (show 8 + (8 + 11) + _ ≤ 84000 by omega)⟩ 12 rfl rfl hqm rfl (Nat.le_of_ble_eq_true rfl) (k + (N2 - N)) (n + 2 * (N2 - N)) (by omega) (by omega) (show _ ≤ 601024 by omega) (show _ ≤ 7293034 by omega) d_law_172 (fun y => ?_)
  obtain ⟨wm2, hm2⟩ := y
  obtain ⟨fm2, hqm2⟩ := CM_0 hm2
  refine g_istore 175 hC _ (by decide) rfl d_law_175 ?_
  refine g_aload_n 177 hC (j := 4) (hj := rfl) (hd := d_law_177) ?_
  obtain ⟨rm3, ⟨t1, t2⟩, ⟨t3, t4⟩, hMt⟩ := Om_thrown (g_l C) (g_D C) (g_K C) hm2
  refine a_callVi 178 hC hMt mx_thrown kw_inim ml_thrown mm_thrown ms_thrown 0 rfl (by decide +kernel) ⟨(show _ + 1 ≤ 2048 by omega), (show 8 + (1 + 11) + _ ≤ 84000 by omega)⟩ 12 rfl rfl hqm2 rfl (Nat.le_of_ble_eq_true rfl) (k + (N2 - N)) (n + 2 * (N2 - N)) (by omega) (by omega) (show _ ≤ 601024 by omega) (show _ ≤ 7293034 by omega) d_law_178 (fun y => ?_)
  obtain ⟨wm3, hm3⟩ := y
  refine g_iload 181 hC (j := 1) (hj := rfl) (hd := d_law_181) ?_
  refine g_perm (ws2 := ocell (g_K C) q (vp_updL f 0 (nI (s.F + 20)).toInt64) :: (wx2 ++ wm3)) pm_2 ?_
  refine g_icmp_eq 183 hC 188 (by decide) d_law_183 (fun _ => ?_) (fun h9 => absurd rfl h9)
  refine g_iload 188 hC (j := 1) (hj := rfl) (hd := d_law_188) ?_
  refine g_if_ne 190 hC 205 (by decide) d_law_190 (fun h9 => absurd rfl h9) (fun _ => ?_)
  refine g_aload_n 193 hC (j := 3) (hj := rfl) (hd := d_law_193) ?_
  refine g_iconst 194 hC (0 : Int32) (by decide) d_law_194 ?_
  refine g_lald 195 hC 0 rfl rfl d_law_195 ?_
  refine g_iload 196 hC (j := 0) (hj := rfl) (hd := d_law_196) ?_
  refine g_i2l 198 hC d_law_198 ?_
  refine g_lcmp 199 hC (if_pos rfl) d_law_199 ?_
  refine g_if_eq 200 hC 205 (by decide) d_law_200 (fun _ => ?_) (fun h9 => absurd rfl h9)
  refine g_goto 205 hC 687 (by decide) d_law_205 ?_
  refine g_lvp [2, 3, 4, 5, 6] rfl ?_
  exact g_wide (152 + (N2 - 16384) + (i + 6)) (398815 + 2 * (N2 - 16384) + (i + 6)) (by omega) (by omega) (nx (sFeed s (xs (i + 1)) (xs (i + 2)) (xs (i + 3)) (xs (i + 4)) (xs (i + 5))) N2 wx2 wm3 (vp_updL f 0 (nI (s.F + 20)).toInt64) 0 (feed_ok hs hc) hx2 hm3)
theorem L_feedr {C : gT} {b L : Nat} {xs : Nat → Int32} (hL : LW C b L xs) {q qx qm i N k n : Nat} {kk : Int32} {f : Nat → Int64} {wx wm : va_W} {s : ST} (hi : i + 6 ≤ L) (hs : stOk s) (hx : CX (g_K C) qx s N wx) (hm : CM (g_K C) qm s kk wm) (hk : k = 152 + (N - 16384) + i) (hn : n = 398815 + 2 * (N - 16384) + i) (nx : NXt C b qx qm q i) (hc : 10220 < s.F) : gAt C k n (ocell (g_K C) q f :: (wx ++ wm)) (lvH b qx qm q i) 104 [] := by
  obtain ⟨hC, hTs, hA, hX, hL9, hst⟩ := hL
  obtain ⟨⟨fs, hq⟩, hN1, hN2⟩ := CX_0 hx
  obtain ⟨fm, hqm⟩ := CM_0 hm
  have hT := Tx_feed (g_l C) hst (g_D C) (g_K C) (xs (i + 1)) (xs (i + 2)) (xs (i + 3)) (xs (i + 4)) (xs (i + 5)) hx hc hs.1
  have hW := wt_feed q f (xs (i + 1)) (xs (i + 2)) (xs (i + 3)) (xs (i + 4)) (xs (i + 5)) { frames := 30, cells := 1, slots := 6, locals := 1200 } hT hq ⟨(show 6 + 1 ≤ 30 by omega), (show 8 + (6 + 11) + 90 ≤ 1200 by omega)⟩ (Nat.le_refl _) (Nat.le_refl _)
  obtain ⟨rm2, ⟨e1, e2⟩, ⟨e3, e4⟩, hMm⟩ := Om_feedr (g_l C) (g_D C) (g_K C) (xs (i + 1)) (xs (i + 2)) (xs (i + 3)) (xs (i + 4)) (xs (i + 5)) hm hc hs.1
  refine g_aload_n 104 hC (j := 3) (hj := rfl) (hd := d_law_104) ?_
  refine g_aload_n 105 hC (j := 4) (hj := rfl) (hd := d_law_105) ?_
  refine g_iload 106 hC (j := 0) (hj := rfl) (hd := d_law_106) ?_
  refine g_iconst 108 hC (1 : Int32) (by decide) d_law_108 ?_
  refine g_iadd 109 hC d_law_109 ?_
  refine g_xald 110 hC hA hX (i + 1) (nI_add i 1) (by omega) (by omega) d_law_110 ?_
  refine g_aload_n 111 hC (j := 4) (hj := rfl) (hd := d_law_111) ?_
  refine g_iload 112 hC (j := 0) (hj := rfl) (hd := d_law_112) ?_
  refine g_iconst 114 hC (2 : Int32) (by decide) d_law_114 ?_
  refine g_iadd 115 hC d_law_115 ?_
  refine g_xald 116 hC hA hX (i + 2) (nI_add i 2) (by omega) (by omega) d_law_116 ?_
  refine g_aload_n 117 hC (j := 4) (hj := rfl) (hd := d_law_117) ?_
  refine g_iload 118 hC (j := 0) (hj := rfl) (hd := d_law_118) ?_
  refine g_iconst 120 hC (3 : Int32) (by decide) d_law_120 ?_
  refine g_iadd 121 hC d_law_121 ?_
  refine g_xald 122 hC hA hX (i + 3) (nI_add i 3) (by omega) (by omega) d_law_122 ?_
  refine g_aload_n 123 hC (j := 4) (hj := rfl) (hd := d_law_123) ?_
  refine g_iload 124 hC (j := 0) (hj := rfl) (hd := d_law_124) ?_
  refine g_iconst 126 hC (4 : Int32) (by decide) d_law_126 ?_
  refine g_iadd 127 hC d_law_127 ?_
  refine g_xald 128 hC hA hX (i + 4) (nI_add i 4) (by omega) (by omega) d_law_128 ?_
  refine g_aload_n 129 hC (j := 4) (hj := rfl) (hd := d_law_129) ?_
  refine g_iload 130 hC (j := 0) (hj := rfl) (hd := d_law_130) ?_
  refine g_iconst 132 hC (5 : Int32) (by decide) d_law_132 ?_
  refine g_iadd 133 hC d_law_133 ?_
  refine g_xald 134 hC hA hX (i + 5) (nI_add i 5) (by omega) (by omega) d_law_134 ?_
  refine g_aload_n 135 hC (j := 1) (hj := rfl) (hd := d_law_135) ?_
  refine a_callST 136 hC hTs hW kv_feed kw_inil kk_feed kt_feed 7 rfl (by decide +kernel) ⟨(show 30 + 1 ≤ 2048 by omega), (show 8 + (_ + 11) + 1200 ≤ 84000 by omega)⟩ rfl (Nat.le_of_ble_eq_true rfl) (k + 1) (n + 6) (Nat.le_refl _) (Nat.le_refl _) (show _ ≤ 601024 by omega) (show _ ≤ 7293034 by omega) d_law_136 (fun x r hr => ?_)
  have hr : r = 1 := hr
  subst hr
  refine g_istore 139 hC _ (by decide) rfl d_law_139 ?_
  refine g_aload_n 141 hC (j := 3) (hj := rfl) (hd := d_law_141) ?_
  refine g_aload_n 142 hC (j := 5) (hj := rfl) (hd := d_law_142) ?_
  refine g_iload 143 hC (j := 1) (hj := rfl) (hd := d_law_143) ?_
  refine g_iconst 145 hC (1 : Int32) (by decide) d_law_145 ?_
  refine g_iadd 146 hC d_law_146 ?_
  refine g_xald 147 hC hA hX (i + 1) (nI_add i 1) (by omega) (by omega) d_law_147 ?_
  refine g_aload_n 148 hC (j := 5) (hj := rfl) (hd := d_law_148) ?_
  refine g_iload 149 hC (j := 1) (hj := rfl) (hd := d_law_149) ?_
  refine g_iconst 151 hC (2 : Int32) (by decide) d_law_151 ?_
  refine g_iadd 152 hC d_law_152 ?_
  refine g_xald 153 hC hA hX (i + 2) (nI_add i 2) (by omega) (by omega) d_law_153 ?_
  refine g_aload_n 154 hC (j := 5) (hj := rfl) (hd := d_law_154) ?_
  refine g_iload 155 hC (j := 1) (hj := rfl) (hd := d_law_155) ?_
  refine g_iconst 157 hC (3 : Int32) (by decide) d_law_157 ?_
  refine g_iadd 158 hC d_law_158 ?_
  refine g_xald 159 hC hA hX (i + 3) (nI_add i 3) (by omega) (by omega) d_law_159 ?_
  refine g_aload_n 160 hC (j := 5) (hj := rfl) (hd := d_law_160) ?_
  refine g_iload 161 hC (j := 1) (hj := rfl) (hd := d_law_161) ?_
  refine g_iconst 163 hC (4 : Int32) (by decide) d_law_163 ?_
  refine g_iadd 164 hC d_law_164 ?_
  refine g_xald 165 hC hA hX (i + 4) (nI_add i 4) (by omega) (by omega) d_law_165 ?_
  refine g_aload_n 166 hC (j := 5) (hj := rfl) (hd := d_law_166) ?_
  refine g_iload 167 hC (j := 1) (hj := rfl) (hd := d_law_167) ?_
  refine g_iconst 169 hC (5 : Int32) (by decide) d_law_169 ?_
  refine g_iadd 170 hC d_law_170 ?_
  refine g_xald 171 hC hA hX (i + 5) (nI_add i 5) (by omega) (by omega) d_law_171 ?_
  refine g_perm (ws2 := wm ++ (ocell (g_K C) q f :: wx)) pm_1 ?_
  refine a_callVi 172 hC hMm mx_feed kw_inim ml_feed mm_feed ms_feed 5 rfl (by decide +kernel) ⟨(show _ + 1 ≤ 2048 by omega), (show 8 + (8 + 11) + _ ≤ 84000 by omega)⟩ 12 rfl rfl hqm rfl (Nat.le_of_ble_eq_true rfl) (k + 1) (n + 6) (by omega) (by omega) (show _ ≤ 601024 by omega) (show _ ≤ 7293034 by omega) d_law_172 (fun y => ?_)
  obtain ⟨wm2, hm2⟩ := y
  obtain ⟨fm2, hqm2⟩ := CM_0 hm2
  refine g_istore 175 hC _ (by decide) rfl d_law_175 ?_
  refine g_aload_n 177 hC (j := 4) (hj := rfl) (hd := d_law_177) ?_
  obtain ⟨rm3, ⟨t1, t2⟩, ⟨t3, t4⟩, hMt⟩ := Om_thrown (g_l C) (g_D C) (g_K C) hm2
  refine a_callVi 178 hC hMt mx_thrown kw_inim ml_thrown mm_thrown ms_thrown 0 rfl (by decide +kernel) ⟨(show _ + 1 ≤ 2048 by omega), (show 8 + (1 + 11) + _ ≤ 84000 by omega)⟩ 12 rfl rfl hqm2 rfl (Nat.le_of_ble_eq_true rfl) (k + 1) (n + 6) (by omega) (by omega) (show _ ≤ 601024 by omega) (show _ ≤ 7293034 by omega) d_law_178 (fun y => ?_)
  obtain ⟨wm3, hm3⟩ := y
  refine g_iload 181 hC (j := 1) (hj := rfl) (hd := d_law_181) ?_
  refine g_perm (ws2 := ocell (g_K C) q f :: (wx ++ wm3)) pm_2 ?_
  refine g_icmp_eq 183 hC 188 (by decide) d_law_183 (fun _ => ?_) (fun h9 => absurd rfl h9)
  refine g_iload 188 hC (j := 1) (hj := rfl) (hd := d_law_188) ?_
  refine g_if_ne 190 hC 205 (by decide) d_law_190 (fun _ => ?_) (fun h9 => absurd h9 (by decide))
  refine g_goto 205 hC 687 (by decide) d_law_205 ?_
  refine g_lvp [2, 3, 4, 5, 6] rfl ?_
  exact g_wide (152 + (N - 16384) + (i + 6)) (398815 + 2 * (N - 16384) + (i + 6)) (by omega) (by omega) (nx s N wx wm3 f 1 hs hx hm3)
theorem kt_end : (Jvm.Cond.static ({ cls := "RotationPressLaw", name := "end", desc := "(LRotationPress;I)I" } : Jvm.MethodName)) ∈ g_tbl := List.mem_filter.mpr ⟨List.mem_append_right (k2_sels lw_privs) (List.mem_append_right _ (List.mem_append_right _ (List.mem_append_left _ (List.mem_of_getElem? (l := tables_1_3) (i := 70) rfl)))), rfl⟩
theorem kk_end : (Jvm.Cond.methodLink "RotationPressLaw" (60 : Nat) ({ cls := "RotationPressLaw", name := "end", desc := "(LRotationPress;I)I" } : Jvm.MethodName)) ∈ g_tbl := List.mem_filter.mpr ⟨List.mem_append_right (k2_sels lw_privs) (List.mem_append_right _ (List.mem_append_right _ (List.mem_append_left _ (List.mem_of_getElem? (l := tables_1_3) (i := 69) rfl)))), rfl⟩
theorem mx_end : (Jvm.Cond.code ({ cls := "RotationPressModel", name := "end", desc := "(I)V" } : Jvm.MethodName) prog_14_method_5_code (2 : Nat) (Option.none : Option Jvm.ClassFile.FieldType)) ∈ g_tbl := List.mem_filter.mpr ⟨List.mem_append_right (k2_sels lw_privs) (List.mem_append_right _ (List.mem_append_right _ (List.mem_append_right _ (List.mem_append_right _ (List.mem_append_right _ (List.mem_append_left _ (List.mem_of_getElem? (l := tables_1_6) (i := 183) rfl))))))), rfl⟩
theorem ml_end : (Jvm.Cond.methodLink "RotationPressLaw" (63 : Nat) ({ cls := "RotationPressModel", name := "end", desc := "(I)V" } : Jvm.MethodName)) ∈ g_tbl := List.mem_filter.mpr ⟨List.mem_append_right (k2_sels lw_privs) (List.mem_append_right _ (List.mem_append_right _ (List.mem_append_right _ (List.mem_append_right _ (List.mem_append_right _ (List.mem_append_left _ (List.mem_of_getElem? (l := tables_1_6) (i := 180) rfl))))))), rfl⟩
theorem mm_end : (Jvm.Cond.instanceMethod ({ cls := "RotationPressModel", name := "end", desc := "(I)V" } : Jvm.MethodName)) ∈ g_tbl := List.mem_filter.mpr ⟨List.mem_append_right (k2_sels lw_privs) (List.mem_append_right _ (List.mem_append_right _ (List.mem_append_right _ (List.mem_append_right _ (List.mem_append_right _ (List.mem_append_left _ (List.mem_of_getElem? (l := tables_1_6) (i := 181) rfl))))))), rfl⟩
theorem ms_end : (Jvm.Cond.selects "RotationPressModel" ({ cls := "RotationPressModel", name := "end", desc := "(I)V" } : Jvm.MethodName) ({ cls := "RotationPressModel", name := "end", desc := "(I)V" } : Jvm.MethodName)) ∈ g_tbl := List.mem_filter.mpr ⟨List.mem_append_right (k2_sels lw_privs) (List.mem_append_right _ (List.mem_append_right _ (List.mem_append_right _ (List.mem_append_right _ (List.mem_append_right _ (List.mem_append_left _ (List.mem_of_getElem? (l := tables_1_6) (i := 182) rfl))))))), rfl⟩
theorem L_end {C : gT} {b L : Nat} {xs : Nat → Int32} (hL : LW C b L xs) {q qx qm i N k n : Nat} {kk : Int32} {f : Nat → Int64} {wx wm : va_W} {s : ST} (hi : i + 6 ≤ L) (hs : stOk s) (hx : CX (g_K C) qx s N wx) (hm : CM (g_K C) qm s kk wm) (hk : k = 152 + (N - 16384) + i) (hn : n = 398815 + 2 * (N - 16384) + i) (nx : NXt C b qx qm q i) {i0 : Nat} (hi0 : i0 ≤ s.F) (ep : xs (i + 1) = nI i0) : gAt C k n (ocell (g_K C) q f :: (wx ++ wm)) (lvH b qx qm q i) 208 [] := by
  obtain ⟨hC, hTs, hA, hX, hL9, hst⟩ := hL
  obtain ⟨⟨fs, hq⟩, hN1, hN2⟩ := CX_0 hx
  obtain ⟨fm, hqm⟩ := CM_0 hm
  have hO := Ox_end (g_l C) (g_D C) (g_K C) i0 hx hs.1 hi0
  rw [← ep] at hO
  obtain ⟨rm, ⟨r1, r2⟩, ⟨r3, r4⟩, hMx⟩ := hO
  have c1 : N ≤ N := Nat.le_refl _
  have hW := w_end (xs (i + 1)) { frames := 30, cells := 0, slots := 0, locals := 1200 } hMx hq ⟨(show rm.frames + 1 ≤ 30 by omega), (show 8 + (2 + 11) + rm.locals ≤ 1200 by omega)⟩ (by omega) (by omega)
  have hO2 := Om_end (g_l C) (g_D C) (g_K C) i0 hm hs.1 hi0
  rw [← ep] at hO2
  obtain ⟨rm2, ⟨e1, e2⟩, ⟨e3, e4⟩, hMm⟩ := hO2
  refine g_aload_n 208 hC (j := 3) (hj := rfl) (hd := d_law_208) ?_
  refine g_aload_n 209 hC (j := 4) (hj := rfl) (hd := d_law_209) ?_
  refine g_iload 210 hC (j := 0) (hj := rfl) (hd := d_law_210) ?_
  refine g_iconst 212 hC (1 : Int32) (by decide) d_law_212 ?_
  refine g_iadd 213 hC d_law_213 ?_
  refine g_xald 214 hC hA hX (i + 1) (nI_add i 1) (by omega) (by omega) d_law_214 ?_
  refine g_perm (ws2 := wx ++ (ocell (g_K C) q f :: wm)) List.perm_middle.symm ?_
  refine a_callST 215 hC hTs hW kv_end kw_inil kk_end kt_end 2 rfl (by decide +kernel) ⟨(show 30 + 1 ≤ 2048 by omega), (show 8 + (_ + 11) + 1200 ≤ 84000 by omega)⟩ rfl (Nat.le_of_ble_eq_true rfl) k n (Nat.le_refl _) (Nat.le_refl _) (show _ ≤ 601024 by omega) (show _ ≤ 7293034 by omega) d_law_215 (fun x r hr => ?_)
  obtain ⟨wx2, hx2⟩ := x
  have hr : r = 0 := hr
  subst hr
  refine g_perm (ws2 := ocell (g_K C) q f :: (wx2 ++ wm)) List.perm_middle ?_
  refine g_istore 218 hC _ (by decide) rfl d_law_218 ?_
  refine g_aload_n 220 hC (j := 3) (hj := rfl) (hd := d_law_220) ?_
  refine g_aload_n 221 hC (j := 5) (hj := rfl) (hd := d_law_221) ?_
  refine g_iload 222 hC (j := 1) (hj := rfl) (hd := d_law_222) ?_
  refine g_iconst 224 hC (1 : Int32) (by decide) d_law_224 ?_
  refine g_iadd 225 hC d_law_225 ?_
  refine g_xald 226 hC hA hX (i + 1) (nI_add i 1) (by omega) (by omega) d_law_226 ?_
  refine g_perm (ws2 := wm ++ (ocell (g_K C) q f :: wx2)) pm_1 ?_
  refine a_callVv 227 hC hMm mx_end kw_inim ml_end mm_end ms_end 1 rfl (by decide +kernel) ⟨(show _ + 1 ≤ 2048 by omega), (show 8 + (2 + 11) + _ ≤ 84000 by omega)⟩ 12 rfl rfl hqm rfl (Nat.le_of_ble_eq_true rfl) k n (by omega) (by omega) (show _ ≤ 601024 by omega) (show _ ≤ 7293034 by omega) d_law_227 (fun y => ?_)
  obtain ⟨wm2, hm2⟩ := y
  obtain ⟨fm2, hqm2⟩ := CM_0 hm2
  refine g_aload_n 230 hC (j := 3) (hj := rfl) (hd := d_law_230) ?_
  obtain ⟨rm3, ⟨t1, t2⟩, ⟨t3, t4⟩, hMt⟩ := Om_thrown (g_l C) (g_D C) (g_K C) hm2
  refine a_callVi 231 hC hMt mx_thrown kw_inim ml_thrown mm_thrown ms_thrown 0 rfl (by decide +kernel) ⟨(show _ + 1 ≤ 2048 by omega), (show 8 + (1 + 11) + _ ≤ 84000 by omega)⟩ 12 rfl rfl hqm2 rfl (Nat.le_of_ble_eq_true rfl) k n (by omega) (by omega) (show _ ≤ 601024 by omega) (show _ ≤ 7293034 by omega) d_law_231 (fun y => ?_)
  obtain ⟨wm3, hm3⟩ := y
  refine g_iload 234 hC (j := 0) (hj := rfl) (hd := d_law_234) ?_
  refine g_perm (ws2 := ocell (g_K C) q f :: (wx2 ++ wm3)) pm_2 ?_
  refine g_icmp_eq 236 hC 241 (by decide) d_law_236 (fun _ => ?_) (fun h9 => absurd rfl h9)
  refine g_goto 241 hC 687 (by decide) d_law_241 ?_
  refine g_lvp [1, 2, 3, 4, 5] rfl ?_
  exact g_wide (152 + (N - 16384) + (i + 6)) (398815 + 2 * (N - 16384) + (i + 6)) (by omega) (by omega) (nx (sEnd s i0) N wx2 wm3 f 0 (end_ok hs hi0) hx2 hm3)
theorem L_endr {C : gT} {b L : Nat} {xs : Nat → Int32} (hL : LW C b L xs) {q qx qm i N k n : Nat} {kk : Int32} {f : Nat → Int64} {wx wm : va_W} {s : ST} (hi : i + 6 ≤ L) (hs : stOk s) (hx : CX (g_K C) qx s N wx) (hm : CM (g_K C) qm s kk wm) (hk : k = 152 + (N - 16384) + i) (hn : n = 398815 + 2 * (N - 16384) + i) (nx : NXt C b qx qm q i) (hp : xs (i + 1) < 0 ∨ ¬ xs (i + 1) ≤ nI s.F) : gAt C k n (ocell (g_K C) q f :: (wx ++ wm)) (lvH b qx qm q i) 208 [] := by
  obtain ⟨hC, hTs, hA, hX, hL9, hst⟩ := hL
  obtain ⟨⟨fs, hq⟩, hN1, hN2⟩ := CX_0 hx
  obtain ⟨fm, hqm⟩ := CM_0 hm
  have hT := Tx_end (g_l C) hst (g_D C) (g_K C) (xs (i + 1)) hx hp
  have hW := wt_end (xs (i + 1)) { frames := 30, cells := 1, slots := 6, locals := 1200 } hT hq ⟨(show 6 + 1 ≤ 30 by omega), (show 8 + (2 + 11) + 90 ≤ 1200 by omega)⟩ (Nat.le_refl _) (Nat.le_refl _)
  obtain ⟨rm2, ⟨e1, e2⟩, ⟨e3, e4⟩, hMm⟩ := Om_endr (g_l C) (g_D C) (g_K C) (xs (i + 1)) hm hp
  refine g_aload_n 208 hC (j := 3) (hj := rfl) (hd := d_law_208) ?_
  refine g_aload_n 209 hC (j := 4) (hj := rfl) (hd := d_law_209) ?_
  refine g_iload 210 hC (j := 0) (hj := rfl) (hd := d_law_210) ?_
  refine g_iconst 212 hC (1 : Int32) (by decide) d_law_212 ?_
  refine g_iadd 213 hC d_law_213 ?_
  refine g_xald 214 hC hA hX (i + 1) (nI_add i 1) (by omega) (by omega) d_law_214 ?_
  refine g_perm (ws2 := wx ++ (ocell (g_K C) q f :: wm)) List.perm_middle.symm ?_
  refine a_callST 215 hC hTs hW kv_end kw_inil kk_end kt_end 2 rfl (by decide +kernel) ⟨(show 30 + 1 ≤ 2048 by omega), (show 8 + (_ + 11) + 1200 ≤ 84000 by omega)⟩ rfl (Nat.le_of_ble_eq_true rfl) (k + 1) (n + 6) (Nat.le_refl _) (Nat.le_refl _) (show _ ≤ 601024 by omega) (show _ ≤ 7293034 by omega) d_law_215 (fun x r hr => ?_)
  have hr : r = 1 := hr
  subst hr
  refine g_perm (ws2 := ocell (g_K C) q f :: (wx ++ wm)) List.perm_middle ?_
  refine g_istore 218 hC _ (by decide) rfl d_law_218 ?_
  refine g_aload_n 220 hC (j := 3) (hj := rfl) (hd := d_law_220) ?_
  refine g_aload_n 221 hC (j := 5) (hj := rfl) (hd := d_law_221) ?_
  refine g_iload 222 hC (j := 1) (hj := rfl) (hd := d_law_222) ?_
  refine g_iconst 224 hC (1 : Int32) (by decide) d_law_224 ?_
  refine g_iadd 225 hC d_law_225 ?_
  refine g_xald 226 hC hA hX (i + 1) (nI_add i 1) (by omega) (by omega) d_law_226 ?_
  refine g_perm (ws2 := wm ++ (ocell (g_K C) q f :: wx)) pm_1 ?_
  refine a_callVv 227 hC hMm mx_end kw_inim ml_end mm_end ms_end 1 rfl (by decide +kernel) ⟨(show _ + 1 ≤ 2048 by omega), (show 8 + (2 + 11) + _ ≤ 84000 by omega)⟩ 12 rfl rfl hqm rfl (Nat.le_of_ble_eq_true rfl) (k + 1) (n + 6) (by omega) (by omega) (show _ ≤ 601024 by omega) (show _ ≤ 7293034 by omega) d_law_227 (fun y => ?_)
  obtain ⟨wm2, hm2⟩ := y
  obtain ⟨fm2, hqm2⟩ := CM_0 hm2
  refine g_aload_n 230 hC (j := 3) (hj := rfl) (hd := d_law_230) ?_
  obtain ⟨rm3, ⟨t1, t2⟩, ⟨t3, t4⟩, hMt⟩ := Om_thrown (g_l C) (g_D C) (g_K C) hm2
  refine a_callVi 231 hC hMt mx_thrown kw_inim ml_thrown mm_thrown ms_thrown 0 rfl (by decide +kernel) ⟨(show _ + 1 ≤ 2048 by omega), (show 8 + (1 + 11) + _ ≤ 84000 by omega)⟩ 12 rfl rfl hqm2 rfl (Nat.le_of_ble_eq_true rfl) (k + 1) (n + 6) (by omega) (by omega) (show _ ≤ 601024 by omega) (show _ ≤ 7293034 by omega) d_law_231 (fun y => ?_)
  obtain ⟨wm3, hm3⟩ := y
  refine g_iload 234 hC (j := 0) (hj := rfl) (hd := d_law_234) ?_
  refine g_perm (ws2 := ocell (g_K C) q f :: (wx ++ wm3)) pm_2 ?_
  refine g_icmp_eq 236 hC 241 (by decide) d_law_236 (fun _ => ?_) (fun h9 => absurd rfl h9)
  refine g_goto 241 hC 687 (by decide) d_law_241 ?_
  refine g_lvp [1, 2, 3, 4, 5] rfl ?_
  exact g_wide (152 + (N - 16384) + (i + 6)) (398815 + 2 * (N - 16384) + (i + 6)) (by omega) (by omega) (nx s N wx wm3 f 1 hs hx hm3)
theorem kt_alter : (Jvm.Cond.static ({ cls := "RotationPressLaw", name := "alter", desc := "(LRotationPress;II[J)I" } : Jvm.MethodName)) ∈ g_tbl := List.mem_filter.mpr ⟨List.mem_append_right (k2_sels lw_privs) (List.mem_append_right _ (List.mem_append_right _ (List.mem_append_left _ (List.mem_of_getElem? (l := tables_1_3) (i := 94) rfl)))), rfl⟩
theorem kk_alter : (Jvm.Cond.methodLink "RotationPressLaw" (64 : Nat) ({ cls := "RotationPressLaw", name := "alter", desc := "(LRotationPress;II[J)I" } : Jvm.MethodName)) ∈ g_tbl := List.mem_filter.mpr ⟨List.mem_append_right (k2_sels lw_privs) (List.mem_append_right _ (List.mem_append_right _ (List.mem_append_left _ (List.mem_of_getElem? (l := tables_1_3) (i := 93) rfl)))), rfl⟩
theorem mx_alter : (Jvm.Cond.code ({ cls := "RotationPressModel", name := "alter", desc := "(II)I" } : Jvm.MethodName) prog_14_method_6_code (4 : Nat) (Option.some Jvm.ClassFile.FieldType.int)) ∈ g_tbl := List.mem_filter.mpr ⟨List.mem_append_right (k2_sels lw_privs) (List.mem_append_right _ (List.mem_append_right _ (List.mem_append_right _ (List.mem_append_right _ (List.mem_append_right _ (List.mem_append_left _ (List.mem_of_getElem? (l := tables_1_6) (i := 187) rfl))))))), rfl⟩
theorem ml_alter : (Jvm.Cond.methodLink "RotationPressLaw" (67 : Nat) ({ cls := "RotationPressModel", name := "alter", desc := "(II)I" } : Jvm.MethodName)) ∈ g_tbl := List.mem_filter.mpr ⟨List.mem_append_right (k2_sels lw_privs) (List.mem_append_right _ (List.mem_append_right _ (List.mem_append_right _ (List.mem_append_right _ (List.mem_append_right _ (List.mem_append_left _ (List.mem_of_getElem? (l := tables_1_6) (i := 184) rfl))))))), rfl⟩
theorem mm_alter : (Jvm.Cond.instanceMethod ({ cls := "RotationPressModel", name := "alter", desc := "(II)I" } : Jvm.MethodName)) ∈ g_tbl := List.mem_filter.mpr ⟨List.mem_append_right (k2_sels lw_privs) (List.mem_append_right _ (List.mem_append_right _ (List.mem_append_right _ (List.mem_append_right _ (List.mem_append_right _ (List.mem_append_left _ (List.mem_of_getElem? (l := tables_1_6) (i := 185) rfl))))))), rfl⟩
theorem ms_alter : (Jvm.Cond.selects "RotationPressModel" ({ cls := "RotationPressModel", name := "alter", desc := "(II)I" } : Jvm.MethodName) ({ cls := "RotationPressModel", name := "alter", desc := "(II)I" } : Jvm.MethodName)) ∈ g_tbl := List.mem_filter.mpr ⟨List.mem_append_right (k2_sels lw_privs) (List.mem_append_right _ (List.mem_append_right _ (List.mem_append_right _ (List.mem_append_right _ (List.mem_append_right _ (List.mem_append_left _ (List.mem_of_getElem? (l := tables_1_6) (i := 186) rfl))))))), rfl⟩
theorem L_alter {C : gT} {b L : Nat} {xs : Nat → Int32} (hL : LW C b L xs) {q qx qm i N k n : Nat} {kk : Int32} {f : Nat → Int64} {wx wm : va_W} {s : ST} (hi : i + 6 ≤ L) (hs : stOk s) (hx : CX (g_K C) qx s N wx) (hm : CM (g_K C) qm s kk wm) (hk : k = 152 + (N - 16384) + i) (hn : n = 398815 + 2 * (N - 16384) + i) (nx : NXt C b qx qm q i) {i0 b0 : Nat} (hi0 : i0 < s.F) (hb0 : b0 < 256) (ep : xs (i + 1) = nI i0) (eb : xs (i + 2) = nI b0) : gAt C k n (ocell (g_K C) q f :: (wx ++ wm)) (lvH b qx qm q i) 244 [] := by
  obtain ⟨hC, hTs, hA, hX, hL9, hst⟩ := hL
  obtain ⟨⟨fs, hq⟩, hN1, hN2⟩ := CX_0 hx
  obtain ⟨fm, hqm⟩ := CM_0 hm
  have hO := Ox_alter (g_l C) (g_D C) (g_K C) i0 b0 hx hs.1 hi0 hb0
  rw [← ep, ← eb] at hO
  obtain ⟨rm, N2, ⟨c1, c2⟩, ⟨r1, r2⟩, ⟨r3, r4⟩, hMx⟩ := hO
  have hW := w_alter q f (xs (i + 1)) (xs (i + 2)) { frames := 30, cells := N2 - N, slots := 2 * (N2 - N), locals := 1200 } hMx hq ⟨(show rm.frames + 1 ≤ 30 by omega), (show 8 + (3 + 11) + rm.locals ≤ 1200 by omega)⟩ r3 r4
  have hO2 := Om_alter (g_l C) (g_D C) (g_K C) i0 b0 hm hs hi0 hb0
  rw [← ep, ← eb] at hO2
  obtain ⟨rm2, ⟨e1, e2⟩, ⟨e3, e4⟩, hMm⟩ := hO2
  refine g_aload_n 244 hC (j := 3) (hj := rfl) (hd := d_law_244) ?_
  refine g_aload_n 245 hC (j := 4) (hj := rfl) (hd := d_law_245) ?_
  refine g_iload 246 hC (j := 0) (hj := rfl) (hd := d_law_246) ?_
  refine g_iconst 248 hC (1 : Int32) (by decide) d_law_248 ?_
  refine g_iadd 249 hC d_law_249 ?_
  refine g_xald 250 hC hA hX (i + 1) (nI_add i 1) (by omega) (by omega) d_law_250 ?_
  refine g_aload_n 251 hC (j := 4) (hj := rfl) (hd := d_law_251) ?_
  refine g_iload 252 hC (j := 0) (hj := rfl) (hd := d_law_252) ?_
  refine g_iconst 254 hC (2 : Int32) (by decide) d_law_254 ?_
  refine g_iadd 255 hC d_law_255 ?_
  refine g_xald 256 hC hA hX (i + 2) (nI_add i 2) (by omega) (by omega) d_law_256 ?_
  refine g_aload_n 257 hC (j := 1) (hj := rfl) (hd := d_law_257) ?_
  refine a_callST 258 hC hTs hW kv_alter kw_inil kk_alter kt_alter 4 rfl (by decide +kernel) ⟨(show 30 + 1 ≤ 2048 by omega), (show 8 + (_ + 11) + 1200 ≤ 84000 by omega)⟩ rfl (Nat.le_of_ble_eq_true rfl) (k + (N2 - N)) (n + 2 * (N2 - N)) (Nat.le_refl _) (Nat.le_refl _) (show _ ≤ 601024 by omega) (show _ ≤ 7293034 by omega) d_law_258 (fun x r hr => ?_)
  obtain ⟨wx2, hx2⟩ := x
  have hr : r = 0 := hr
  subst hr
  refine g_istore 261 hC _ (by decide) rfl d_law_261 ?_
  refine g_aload_n 263 hC (j := 3) (hj := rfl) (hd := d_law_263) ?_
  refine g_aload_n 264 hC (j := 5) (hj := rfl) (hd := d_law_264) ?_
  refine g_iload 265 hC (j := 1) (hj := rfl) (hd := d_law_265) ?_
  refine g_iconst 267 hC (1 : Int32) (by decide) d_law_267 ?_
  refine g_iadd 268 hC d_law_268 ?_
  refine g_xald 269 hC hA hX (i + 1) (nI_add i 1) (by omega) (by omega) d_law_269 ?_
  refine g_aload_n 270 hC (j := 5) (hj := rfl) (hd := d_law_270) ?_
  refine g_iload 271 hC (j := 1) (hj := rfl) (hd := d_law_271) ?_
  refine g_iconst 273 hC (2 : Int32) (by decide) d_law_273 ?_
  refine g_iadd 274 hC d_law_274 ?_
  refine g_xald 275 hC hA hX (i + 2) (nI_add i 2) (by omega) (by omega) d_law_275 ?_
  refine g_perm (ws2 := wm ++ (ocell (g_K C) q (vp_updL f 0 (nI (s.T i0)).toInt64) :: wx2)) pm_1 ?_
  refine a_callVi 276 hC hMm mx_alter kw_inim ml_alter mm_alter ms_alter 2 rfl (by decide +kernel) ⟨(show _ + 1 ≤ 2048 by omega), (show 8 + (4 + 11) + _ ≤ 84000 by omega)⟩ 12 rfl rfl hqm rfl (Nat.le_of_ble_eq_true rfl) (k + (N2 - N)) (n + 2 * (N2 - N)) (by omega) (by omega) (show _ ≤ 601024 by omega) (show _ ≤ 7293034 by omega) d_law_276 (fun y => ?_)
  obtain ⟨wm2, hm2⟩ := y
  obtain ⟨fm2, hqm2⟩ := CM_0 hm2
  refine g_istore 279 hC _ (by decide) rfl d_law_279 ?_
  refine g_aload_n 281 hC (j := 4) (hj := rfl) (hd := d_law_281) ?_
  obtain ⟨rm3, ⟨t1, t2⟩, ⟨t3, t4⟩, hMt⟩ := Om_thrown (g_l C) (g_D C) (g_K C) hm2
  refine a_callVi 282 hC hMt mx_thrown kw_inim ml_thrown mm_thrown ms_thrown 0 rfl (by decide +kernel) ⟨(show _ + 1 ≤ 2048 by omega), (show 8 + (1 + 11) + _ ≤ 84000 by omega)⟩ 12 rfl rfl hqm2 rfl (Nat.le_of_ble_eq_true rfl) (k + (N2 - N)) (n + 2 * (N2 - N)) (by omega) (by omega) (show _ ≤ 601024 by omega) (show _ ≤ 7293034 by omega) d_law_282 (fun y => ?_)
  obtain ⟨wm3, hm3⟩ := y
  refine g_iload 285 hC (j := 1) (hj := rfl) (hd := d_law_285) ?_
  refine g_perm (ws2 := ocell (g_K C) q (vp_updL f 0 (nI (s.T i0)).toInt64) :: (wx2 ++ wm3)) pm_2 ?_
  refine g_icmp_eq 287 hC 292 (by decide) d_law_287 (fun _ => ?_) (fun h9 => absurd rfl h9)
  refine g_iload 292 hC (j := 1) (hj := rfl) (hd := d_law_292) ?_
  refine g_if_ne 294 hC 309 (by decide) d_law_294 (fun h9 => absurd rfl h9) (fun _ => ?_)
  refine g_aload_n 297 hC (j := 3) (hj := rfl) (hd := d_law_297) ?_
  refine g_iconst 298 hC (0 : Int32) (by decide) d_law_298 ?_
  refine g_lald 299 hC 0 rfl rfl d_law_299 ?_
  refine g_iload 300 hC (j := 0) (hj := rfl) (hd := d_law_300) ?_
  refine g_i2l 302 hC d_law_302 ?_
  refine g_lcmp 303 hC (if_pos rfl) d_law_303 ?_
  refine g_if_eq 304 hC 309 (by decide) d_law_304 (fun _ => ?_) (fun h9 => absurd rfl h9)
  refine g_goto 309 hC 687 (by decide) d_law_309 ?_
  refine g_lvp [2, 3, 4, 5, 6] rfl ?_
  exact g_wide (152 + (N2 - 16384) + (i + 6)) (398815 + 2 * (N2 - 16384) + (i + 6)) (by omega) (by omega) (nx (sAlter s i0 b0) N2 wx2 wm3 (vp_updL f 0 (nI (s.T i0)).toInt64) 0 (alter_ok hs hb0) hx2 hm3)
theorem L_alterr {C : gT} {b L : Nat} {xs : Nat → Int32} (hL : LW C b L xs) {q qx qm i N k n : Nat} {kk : Int32} {f : Nat → Int64} {wx wm : va_W} {s : ST} (hi : i + 6 ≤ L) (hs : stOk s) (hx : CX (g_K C) qx s N wx) (hm : CM (g_K C) qm s kk wm) (hk : k = 152 + (N - 16384) + i) (hn : n = 398815 + 2 * (N - 16384) + i) (nx : NXt C b qx qm q i) (hp : xs (i + 1) < 0 ∨ ¬ xs (i + 1) < 0 ∧ nI s.F ≤ xs (i + 1)) : gAt C k n (ocell (g_K C) q f :: (wx ++ wm)) (lvH b qx qm q i) 244 [] := by
  obtain ⟨hC, hTs, hA, hX, hL9, hst⟩ := hL
  obtain ⟨⟨fs, hq⟩, hN1, hN2⟩ := CX_0 hx
  obtain ⟨fm, hqm⟩ := CM_0 hm
  have hT := Tx_alter (g_l C) hst (g_D C) (g_K C) (xs (i + 1)) (xs (i + 2)) hx hp
  have hW := wt_alter q f (xs (i + 1)) (xs (i + 2)) { frames := 30, cells := 1, slots := 6, locals := 1200 } hT hq ⟨(show 6 + 1 ≤ 30 by omega), (show 8 + (3 + 11) + 90 ≤ 1200 by omega)⟩ (Nat.le_refl _) (Nat.le_refl _)
  obtain ⟨rm2, ⟨e1, e2⟩, ⟨e3, e4⟩, hMm⟩ := Om_alterr (g_l C) (g_D C) (g_K C) (xs (i + 1)) (xs (i + 2)) hm (not_lt_of hp)
  refine g_aload_n 244 hC (j := 3) (hj := rfl) (hd := d_law_244) ?_
  refine g_aload_n 245 hC (j := 4) (hj := rfl) (hd := d_law_245) ?_
  refine g_iload 246 hC (j := 0) (hj := rfl) (hd := d_law_246) ?_
  refine g_iconst 248 hC (1 : Int32) (by decide) d_law_248 ?_
  refine g_iadd 249 hC d_law_249 ?_
  refine g_xald 250 hC hA hX (i + 1) (nI_add i 1) (by omega) (by omega) d_law_250 ?_
  refine g_aload_n 251 hC (j := 4) (hj := rfl) (hd := d_law_251) ?_
  refine g_iload 252 hC (j := 0) (hj := rfl) (hd := d_law_252) ?_
  refine g_iconst 254 hC (2 : Int32) (by decide) d_law_254 ?_
  refine g_iadd 255 hC d_law_255 ?_
  refine g_xald 256 hC hA hX (i + 2) (nI_add i 2) (by omega) (by omega) d_law_256 ?_
  refine g_aload_n 257 hC (j := 1) (hj := rfl) (hd := d_law_257) ?_
  refine a_callST 258 hC hTs hW kv_alter kw_inil kk_alter kt_alter 4 rfl (by decide +kernel) ⟨(show 30 + 1 ≤ 2048 by omega), (show 8 + (_ + 11) + 1200 ≤ 84000 by omega)⟩ rfl (Nat.le_of_ble_eq_true rfl) (k + 1) (n + 6) (Nat.le_refl _) (Nat.le_refl _) (show _ ≤ 601024 by omega) (show _ ≤ 7293034 by omega) d_law_258 (fun x r hr => ?_)
  have hr : r = 1 := hr
  subst hr
  refine g_istore 261 hC _ (by decide) rfl d_law_261 ?_
  refine g_aload_n 263 hC (j := 3) (hj := rfl) (hd := d_law_263) ?_
  refine g_aload_n 264 hC (j := 5) (hj := rfl) (hd := d_law_264) ?_
  refine g_iload 265 hC (j := 1) (hj := rfl) (hd := d_law_265) ?_
  refine g_iconst 267 hC (1 : Int32) (by decide) d_law_267 ?_
  refine g_iadd 268 hC d_law_268 ?_
  refine g_xald 269 hC hA hX (i + 1) (nI_add i 1) (by omega) (by omega) d_law_269 ?_
  refine g_aload_n 270 hC (j := 5) (hj := rfl) (hd := d_law_270) ?_
  refine g_iload 271 hC (j := 1) (hj := rfl) (hd := d_law_271) ?_
  refine g_iconst 273 hC (2 : Int32) (by decide) d_law_273 ?_
  refine g_iadd 274 hC d_law_274 ?_
  refine g_xald 275 hC hA hX (i + 2) (nI_add i 2) (by omega) (by omega) d_law_275 ?_
  refine g_perm (ws2 := wm ++ (ocell (g_K C) q f :: wx)) pm_1 ?_
  refine a_callVi 276 hC hMm mx_alter kw_inim ml_alter mm_alter ms_alter 2 rfl (by decide +kernel) ⟨(show _ + 1 ≤ 2048 by omega), (show 8 + (4 + 11) + _ ≤ 84000 by omega)⟩ 12 rfl rfl hqm rfl (Nat.le_of_ble_eq_true rfl) (k + 1) (n + 6) (by omega) (by omega) (show _ ≤ 601024 by omega) (show _ ≤ 7293034 by omega) d_law_276 (fun y => ?_)
  obtain ⟨wm2, hm2⟩ := y
  obtain ⟨fm2, hqm2⟩ := CM_0 hm2
  refine g_istore 279 hC _ (by decide) rfl d_law_279 ?_
  refine g_aload_n 281 hC (j := 4) (hj := rfl) (hd := d_law_281) ?_
  obtain ⟨rm3, ⟨t1, t2⟩, ⟨t3, t4⟩, hMt⟩ := Om_thrown (g_l C) (g_D C) (g_K C) hm2
  refine a_callVi 282 hC hMt mx_thrown kw_inim ml_thrown mm_thrown ms_thrown 0 rfl (by decide +kernel) ⟨(show _ + 1 ≤ 2048 by omega), (show 8 + (1 + 11) + _ ≤ 84000 by omega)⟩ 12 rfl rfl hqm2 rfl (Nat.le_of_ble_eq_true rfl) (k + 1) (n + 6) (by omega) (by omega) (show _ ≤ 601024 by omega) (show _ ≤ 7293034 by omega) d_law_282 (fun y => ?_)
  obtain ⟨wm3, hm3⟩ := y
  refine g_iload 285 hC (j := 1) (hj := rfl) (hd := d_law_285) ?_
  refine g_perm (ws2 := ocell (g_K C) q f :: (wx ++ wm3)) pm_2 ?_
  refine g_icmp_eq 287 hC 292 (by decide) d_law_287 (fun _ => ?_) (fun h9 => absurd rfl h9)
  refine g_iload 292 hC (j := 1) (hj := rfl) (hd := d_law_292) ?_
  refine g_if_ne 294 hC 309 (by decide) d_law_294 (fun _ => ?_) (fun h9 => absurd h9 (by decide))
  refine g_goto 309 hC 687 (by decide) d_law_309 ?_
  refine g_lvp [2, 3, 4, 5, 6] rfl ?_
  exact g_wide (152 + (N - 16384) + (i + 6)) (398815 + 2 * (N - 16384) + (i + 6)) (by omega) (by omega) (nx s N wx wm3 f 1 hs hx hm3)
theorem L_alter2 {C : gT} {b L : Nat} {xs : Nat → Int32} (hL : LW C b L xs) {q qx qm i N k n : Nat} {kk : Int32} {f : Nat → Int64} {wx wm : va_W} {s : ST} (hi : i + 6 ≤ L) (hs : stOk s) (hx : CX (g_K C) qx s N wx) (hm : CM (g_K C) qm s kk wm) (hk : k = 152 + (N - 16384) + i) (hn : n = 398815 + 2 * (N - 16384) + i) (nx : NXt C b qx qm q i) {i0 : Nat} (hi0 : i0 < s.F) (ep : xs (i + 1) = nI i0) (hp : xs (i + 2) < 0 ∨ ¬ xs (i + 2) < 0 ∧ nI 256 ≤ xs (i + 2)) : gAt C k n (ocell (g_K C) q f :: (wx ++ wm)) (lvH b qx qm q i) 244 [] := by
  obtain ⟨hC, hTs, hA, hX, hL9, hst⟩ := hL
  obtain ⟨⟨fs, hq⟩, hN1, hN2⟩ := CX_0 hx
  obtain ⟨fm, hqm⟩ := CM_0 hm
  have hT := Tx_alter2 (g_l C) hst (g_D C) (g_K C) (xs (i + 1)) (xs (i + 2)) hx (by rw [ep]; exact nI_pos (by have := hs.1; omega)) (by rw [ep]; exact nI_ge hi0 (by have := hs.1; omega)) (not_lt_of hp)
  have hW := wt_alter2 q f (xs (i + 1)) (xs (i + 2)) { frames := 30, cells := 1, slots := 6, locals := 1200 } hT hq ⟨(show 6 + 1 ≤ 30 by omega), (show 8 + (3 + 11) + 90 ≤ 1200 by omega)⟩ (Nat.le_refl _) (Nat.le_refl _)
  have hO2 := Om_alterr2 (g_l C) (g_D C) (g_K C) i0 (xs (i + 2)) hm hs.1 hi0 (gt_le (c := 255) hp (by omega))
  rw [← ep] at hO2
  obtain ⟨rm2, ⟨e1, e2⟩, ⟨e3, e4⟩, hMm⟩ := hO2
  refine g_aload_n 244 hC (j := 3) (hj := rfl) (hd := d_law_244) ?_
  refine g_aload_n 245 hC (j := 4) (hj := rfl) (hd := d_law_245) ?_
  refine g_iload 246 hC (j := 0) (hj := rfl) (hd := d_law_246) ?_
  refine g_iconst 248 hC (1 : Int32) (by decide) d_law_248 ?_
  refine g_iadd 249 hC d_law_249 ?_
  refine g_xald 250 hC hA hX (i + 1) (nI_add i 1) (by omega) (by omega) d_law_250 ?_
  refine g_aload_n 251 hC (j := 4) (hj := rfl) (hd := d_law_251) ?_
  refine g_iload 252 hC (j := 0) (hj := rfl) (hd := d_law_252) ?_
  refine g_iconst 254 hC (2 : Int32) (by decide) d_law_254 ?_
  refine g_iadd 255 hC d_law_255 ?_
  refine g_xald 256 hC hA hX (i + 2) (nI_add i 2) (by omega) (by omega) d_law_256 ?_
  refine g_aload_n 257 hC (j := 1) (hj := rfl) (hd := d_law_257) ?_
  refine a_callST 258 hC hTs hW kv_alter kw_inil kk_alter kt_alter 4 rfl (by decide +kernel) ⟨(show 30 + 1 ≤ 2048 by omega), (show 8 + (_ + 11) + 1200 ≤ 84000 by omega)⟩ rfl (Nat.le_of_ble_eq_true rfl) (k + 1) (n + 6) (Nat.le_refl _) (Nat.le_refl _) (show _ ≤ 601024 by omega) (show _ ≤ 7293034 by omega) d_law_258 (fun x r hr => ?_)
  have hr : r = 2 := hr
  subst hr
  refine g_istore 261 hC _ (by decide) rfl d_law_261 ?_
  refine g_aload_n 263 hC (j := 3) (hj := rfl) (hd := d_law_263) ?_
  refine g_aload_n 264 hC (j := 5) (hj := rfl) (hd := d_law_264) ?_
  refine g_iload 265 hC (j := 1) (hj := rfl) (hd := d_law_265) ?_
  refine g_iconst 267 hC (1 : Int32) (by decide) d_law_267 ?_
  refine g_iadd 268 hC d_law_268 ?_
  refine g_xald 269 hC hA hX (i + 1) (nI_add i 1) (by omega) (by omega) d_law_269 ?_
  refine g_aload_n 270 hC (j := 5) (hj := rfl) (hd := d_law_270) ?_
  refine g_iload 271 hC (j := 1) (hj := rfl) (hd := d_law_271) ?_
  refine g_iconst 273 hC (2 : Int32) (by decide) d_law_273 ?_
  refine g_iadd 274 hC d_law_274 ?_
  refine g_xald 275 hC hA hX (i + 2) (nI_add i 2) (by omega) (by omega) d_law_275 ?_
  refine g_perm (ws2 := wm ++ (ocell (g_K C) q f :: wx)) pm_1 ?_
  refine a_callVi 276 hC hMm mx_alter kw_inim ml_alter mm_alter ms_alter 2 rfl (by decide +kernel) ⟨(show _ + 1 ≤ 2048 by omega), (show 8 + (4 + 11) + _ ≤ 84000 by omega)⟩ 12 rfl rfl hqm rfl (Nat.le_of_ble_eq_true rfl) (k + 1) (n + 6) (by omega) (by omega) (show _ ≤ 601024 by omega) (show _ ≤ 7293034 by omega) d_law_276 (fun y => ?_)
  obtain ⟨wm2, hm2⟩ := y
  obtain ⟨fm2, hqm2⟩ := CM_0 hm2
  refine g_istore 279 hC _ (by decide) rfl d_law_279 ?_
  refine g_aload_n 281 hC (j := 4) (hj := rfl) (hd := d_law_281) ?_
  obtain ⟨rm3, ⟨t1, t2⟩, ⟨t3, t4⟩, hMt⟩ := Om_thrown (g_l C) (g_D C) (g_K C) hm2
  refine a_callVi 282 hC hMt mx_thrown kw_inim ml_thrown mm_thrown ms_thrown 0 rfl (by decide +kernel) ⟨(show _ + 1 ≤ 2048 by omega), (show 8 + (1 + 11) + _ ≤ 84000 by omega)⟩ 12 rfl rfl hqm2 rfl (Nat.le_of_ble_eq_true rfl) (k + 1) (n + 6) (by omega) (by omega) (show _ ≤ 601024 by omega) (show _ ≤ 7293034 by omega) d_law_282 (fun y => ?_)
  obtain ⟨wm3, hm3⟩ := y
  refine g_iload 285 hC (j := 1) (hj := rfl) (hd := d_law_285) ?_
  refine g_perm (ws2 := ocell (g_K C) q f :: (wx ++ wm3)) pm_2 ?_
  refine g_icmp_eq 287 hC 292 (by decide) d_law_287 (fun _ => ?_) (fun h9 => absurd rfl h9)
  refine g_iload 292 hC (j := 1) (hj := rfl) (hd := d_law_292) ?_
  refine g_if_ne 294 hC 309 (by decide) d_law_294 (fun _ => ?_) (fun h9 => absurd h9 (by decide))
  refine g_goto 309 hC 687 (by decide) d_law_309 ?_
  refine g_lvp [2, 3, 4, 5, 6] rfl ?_
  exact g_wide (152 + (N - 16384) + (i + 6)) (398815 + 2 * (N - 16384) + (i + 6)) (by omega) (by omega) (nx s N wx wm3 f 2 hs hx hm3)
theorem kt_copy : (Jvm.Cond.static ({ cls := "RotationPressLaw", name := "copy", desc := "(LRotationPress;[J)I" } : Jvm.MethodName)) ∈ g_tbl := List.mem_filter.mpr ⟨List.mem_append_right (k2_sels lw_privs) (List.mem_append_right _ (List.mem_append_right _ (List.mem_append_left _ (List.mem_of_getElem? (l := tables_1_3) (i := 128) rfl)))), rfl⟩
theorem kk_copy : (Jvm.Cond.methodLink "RotationPressLaw" (68 : Nat) ({ cls := "RotationPressLaw", name := "copy", desc := "(LRotationPress;[J)I" } : Jvm.MethodName)) ∈ g_tbl := List.mem_filter.mpr ⟨List.mem_append_right (k2_sels lw_privs) (List.mem_append_right _ (List.mem_append_right _ (List.mem_append_left _ (List.mem_of_getElem? (l := tables_1_3) (i := 127) rfl)))), rfl⟩
theorem mx_copy : (Jvm.Cond.code ({ cls := "RotationPressModel", name := "copy", desc := "()I" } : Jvm.MethodName) prog_14_method_7_code (2 : Nat) (Option.some Jvm.ClassFile.FieldType.int)) ∈ g_tbl := List.mem_filter.mpr ⟨List.mem_append_right (k2_sels lw_privs) (List.mem_append_right _ (List.mem_append_right _ (List.mem_append_right _ (List.mem_append_right _ (List.mem_append_right _ (List.mem_append_left _ (List.mem_of_getElem? (l := tables_1_6) (i := 191) rfl))))))), rfl⟩
theorem ml_copy : (Jvm.Cond.methodLink "RotationPressLaw" (71 : Nat) ({ cls := "RotationPressModel", name := "copy", desc := "()I" } : Jvm.MethodName)) ∈ g_tbl := List.mem_filter.mpr ⟨List.mem_append_right (k2_sels lw_privs) (List.mem_append_right _ (List.mem_append_right _ (List.mem_append_right _ (List.mem_append_right _ (List.mem_append_right _ (List.mem_append_left _ (List.mem_of_getElem? (l := tables_1_6) (i := 188) rfl))))))), rfl⟩
theorem mm_copy : (Jvm.Cond.instanceMethod ({ cls := "RotationPressModel", name := "copy", desc := "()I" } : Jvm.MethodName)) ∈ g_tbl := List.mem_filter.mpr ⟨List.mem_append_right (k2_sels lw_privs) (List.mem_append_right _ (List.mem_append_right _ (List.mem_append_right _ (List.mem_append_right _ (List.mem_append_right _ (List.mem_append_left _ (List.mem_of_getElem? (l := tables_1_6) (i := 189) rfl))))))), rfl⟩
theorem ms_copy : (Jvm.Cond.selects "RotationPressModel" ({ cls := "RotationPressModel", name := "copy", desc := "()I" } : Jvm.MethodName) ({ cls := "RotationPressModel", name := "copy", desc := "()I" } : Jvm.MethodName)) ∈ g_tbl := List.mem_filter.mpr ⟨List.mem_append_right (k2_sels lw_privs) (List.mem_append_right _ (List.mem_append_right _ (List.mem_append_right _ (List.mem_append_right _ (List.mem_append_right _ (List.mem_append_left _ (List.mem_of_getElem? (l := tables_1_6) (i := 190) rfl))))))), rfl⟩
theorem L_copy {C : gT} {b L : Nat} {xs : Nat → Int32} (hL : LW C b L xs) {q qx qm i N k n : Nat} {kk : Int32} {f : Nat → Int64} {wx wm : va_W} {s : ST} (hi : i + 6 ≤ L) (hs : stOk s) (hx : CX (g_K C) qx s N wx) (hm : CM (g_K C) qm s kk wm) (hk : k = 152 + (N - 16384) + i) (hn : n = 398815 + 2 * (N - 16384) + i) (nx : NXt C b qx qm q i) (hc : s.M ≤ 10240) : gAt C k n (ocell (g_K C) q f :: (wx ++ wm)) (lvH b qx qm q i) 312 [] := by
  obtain ⟨hC, hTs, hA, hX, hL9, hst⟩ := hL
  obtain ⟨⟨fs, hq⟩, hN1, hN2⟩ := CX_0 hx
  obtain ⟨fm, hqm⟩ := CM_0 hm
  have hO := Ox_copy (g_l C) (g_D C) (g_K C) hx hc
  obtain ⟨rm, N2, ⟨c1, c2⟩, ⟨r1, r2⟩, ⟨r3, r4⟩, hMx⟩ := hO
  have hW := w_copy q f  { frames := 30, cells := N2 - N, slots := 2 * (N2 - N), locals := 1200 } hMx hq ⟨(show rm.frames + 1 ≤ 30 by omega), (show 8 + (1 + 11) + rm.locals ≤ 1200 by omega)⟩ r3 r4
  have hO2 := Om_copy (g_l C) (g_D C) (g_K C) hm hc
  obtain ⟨rm2, ⟨e1, e2⟩, ⟨e3, e4⟩, hMm⟩ := hO2
  refine g_aload_n 312 hC (j := 3) (hj := rfl) (hd := d_law_312) ?_
  refine g_aload_n 313 hC (j := 1) (hj := rfl) (hd := d_law_313) ?_
  refine a_callST 314 hC hTs hW kv_copy kw_inil kk_copy kt_copy 2 rfl (by decide +kernel) ⟨(show 30 + 1 ≤ 2048 by omega), (show 8 + (_ + 11) + 1200 ≤ 84000 by omega)⟩ rfl (Nat.le_of_ble_eq_true rfl) (k + (N2 - N)) (n + 2 * (N2 - N)) (Nat.le_refl _) (Nat.le_refl _) (show _ ≤ 601024 by omega) (show _ ≤ 7293034 by omega) d_law_314 (fun x r hr => ?_)
  obtain ⟨wx2, hx2⟩ := x
  have hr : r = 0 := hr
  subst hr
  refine g_istore 317 hC _ (by decide) rfl d_law_317 ?_
  refine g_aload_n 319 hC (j := 3) (hj := rfl) (hd := d_law_319) ?_
  refine g_perm (ws2 := wm ++ (ocell (g_K C) q (vp_updL f 0 (nI s.M).toInt64) :: wx2)) pm_1 ?_
  refine a_callVi 320 hC hMm mx_copy kw_inim ml_copy mm_copy ms_copy 0 rfl (by decide +kernel) ⟨(show _ + 1 ≤ 2048 by omega), (show 8 + (2 + 11) + _ ≤ 84000 by omega)⟩ 12 rfl rfl hqm rfl (Nat.le_of_ble_eq_true rfl) (k + (N2 - N)) (n + 2 * (N2 - N)) (by omega) (by omega) (show _ ≤ 601024 by omega) (show _ ≤ 7293034 by omega) d_law_320 (fun y => ?_)
  obtain ⟨wm2, hm2⟩ := y
  obtain ⟨fm2, hqm2⟩ := CM_0 hm2
  refine g_istore 323 hC _ (by decide) rfl d_law_323 ?_
  refine g_aload_n 325 hC (j := 4) (hj := rfl) (hd := d_law_325) ?_
  obtain ⟨rm3, ⟨t1, t2⟩, ⟨t3, t4⟩, hMt⟩ := Om_thrown (g_l C) (g_D C) (g_K C) hm2
  refine a_callVi 326 hC hMt mx_thrown kw_inim ml_thrown mm_thrown ms_thrown 0 rfl (by decide +kernel) ⟨(show _ + 1 ≤ 2048 by omega), (show 8 + (1 + 11) + _ ≤ 84000 by omega)⟩ 12 rfl rfl hqm2 rfl (Nat.le_of_ble_eq_true rfl) (k + (N2 - N)) (n + 2 * (N2 - N)) (by omega) (by omega) (show _ ≤ 601024 by omega) (show _ ≤ 7293034 by omega) d_law_326 (fun y => ?_)
  obtain ⟨wm3, hm3⟩ := y
  refine g_iload 329 hC (j := 1) (hj := rfl) (hd := d_law_329) ?_
  refine g_perm (ws2 := ocell (g_K C) q (vp_updL f 0 (nI s.M).toInt64) :: (wx2 ++ wm3)) pm_2 ?_
  refine g_icmp_eq 331 hC 336 (by decide) d_law_331 (fun _ => ?_) (fun h9 => absurd rfl h9)
  refine g_iload 336 hC (j := 1) (hj := rfl) (hd := d_law_336) ?_
  refine g_if_ne 338 hC 353 (by decide) d_law_338 (fun h9 => absurd rfl h9) (fun _ => ?_)
  refine g_aload_n 341 hC (j := 3) (hj := rfl) (hd := d_law_341) ?_
  refine g_iconst 342 hC (0 : Int32) (by decide) d_law_342 ?_
  refine g_lald 343 hC 0 rfl rfl d_law_343 ?_
  refine g_iload 344 hC (j := 0) (hj := rfl) (hd := d_law_344) ?_
  refine g_i2l 346 hC d_law_346 ?_
  refine g_lcmp 347 hC (if_pos rfl) d_law_347 ?_
  refine g_if_eq 348 hC 353 (by decide) d_law_348 (fun _ => ?_) (fun h9 => absurd rfl h9)
  refine g_goto 353 hC 687 (by decide) d_law_353 ?_
  refine g_lvp [2, 3, 4, 5, 6] rfl ?_
  exact g_wide (152 + (N2 - 16384) + (i + 6)) (398815 + 2 * (N2 - 16384) + (i + 6)) (by omega) (by omega) (nx (sCopy s) N2 wx2 wm3 (vp_updL f 0 (nI s.M).toInt64) 0 (copy_ok hs hc) hx2 hm3)
theorem L_copyr {C : gT} {b L : Nat} {xs : Nat → Int32} (hL : LW C b L xs) {q qx qm i N k n : Nat} {kk : Int32} {f : Nat → Int64} {wx wm : va_W} {s : ST} (hi : i + 6 ≤ L) (hs : stOk s) (hx : CX (g_K C) qx s N wx) (hm : CM (g_K C) qm s kk wm) (hk : k = 152 + (N - 16384) + i) (hn : n = 398815 + 2 * (N - 16384) + i) (nx : NXt C b qx qm q i) (hc : 10240 < s.M) : gAt C k n (ocell (g_K C) q f :: (wx ++ wm)) (lvH b qx qm q i) 312 [] := by
  obtain ⟨hC, hTs, hA, hX, hL9, hst⟩ := hL
  obtain ⟨⟨fs, hq⟩, hN1, hN2⟩ := CX_0 hx
  obtain ⟨fm, hqm⟩ := CM_0 hm
  have hT := Tx_copy (g_l C) hst (g_D C) (g_K C) hx hc (by have := hs.2.2.1; omega)
  have hW := wt_copy q f  { frames := 30, cells := 1, slots := 6, locals := 1200 } hT hq ⟨(show 6 + 1 ≤ 30 by omega), (show 8 + (1 + 11) + 90 ≤ 1200 by omega)⟩ (Nat.le_refl _) (Nat.le_refl _)
  obtain ⟨rm2, ⟨e1, e2⟩, ⟨e3, e4⟩, hMm⟩ := Om_copyr (g_l C) (g_D C) (g_K C) hm hc (by have := hs.2.2.1; omega)
  refine g_aload_n 312 hC (j := 3) (hj := rfl) (hd := d_law_312) ?_
  refine g_aload_n 313 hC (j := 1) (hj := rfl) (hd := d_law_313) ?_
  refine a_callST 314 hC hTs hW kv_copy kw_inil kk_copy kt_copy 2 rfl (by decide +kernel) ⟨(show 30 + 1 ≤ 2048 by omega), (show 8 + (_ + 11) + 1200 ≤ 84000 by omega)⟩ rfl (Nat.le_of_ble_eq_true rfl) (k + 1) (n + 6) (Nat.le_refl _) (Nat.le_refl _) (show _ ≤ 601024 by omega) (show _ ≤ 7293034 by omega) d_law_314 (fun x r hr => ?_)
  have hr : r = 1 := hr
  subst hr
  refine g_istore 317 hC _ (by decide) rfl d_law_317 ?_
  refine g_aload_n 319 hC (j := 3) (hj := rfl) (hd := d_law_319) ?_
  refine g_perm (ws2 := wm ++ (ocell (g_K C) q f :: wx)) pm_1 ?_
  refine a_callVi 320 hC hMm mx_copy kw_inim ml_copy mm_copy ms_copy 0 rfl (by decide +kernel) ⟨(show _ + 1 ≤ 2048 by omega), (show 8 + (2 + 11) + _ ≤ 84000 by omega)⟩ 12 rfl rfl hqm rfl (Nat.le_of_ble_eq_true rfl) (k + 1) (n + 6) (by omega) (by omega) (show _ ≤ 601024 by omega) (show _ ≤ 7293034 by omega) d_law_320 (fun y => ?_)
  obtain ⟨wm2, hm2⟩ := y
  obtain ⟨fm2, hqm2⟩ := CM_0 hm2
  refine g_istore 323 hC _ (by decide) rfl d_law_323 ?_
  refine g_aload_n 325 hC (j := 4) (hj := rfl) (hd := d_law_325) ?_
  obtain ⟨rm3, ⟨t1, t2⟩, ⟨t3, t4⟩, hMt⟩ := Om_thrown (g_l C) (g_D C) (g_K C) hm2
  refine a_callVi 326 hC hMt mx_thrown kw_inim ml_thrown mm_thrown ms_thrown 0 rfl (by decide +kernel) ⟨(show _ + 1 ≤ 2048 by omega), (show 8 + (1 + 11) + _ ≤ 84000 by omega)⟩ 12 rfl rfl hqm2 rfl (Nat.le_of_ble_eq_true rfl) (k + 1) (n + 6) (by omega) (by omega) (show _ ≤ 601024 by omega) (show _ ≤ 7293034 by omega) d_law_326 (fun y => ?_)
  obtain ⟨wm3, hm3⟩ := y
  refine g_iload 329 hC (j := 1) (hj := rfl) (hd := d_law_329) ?_
  refine g_perm (ws2 := ocell (g_K C) q f :: (wx ++ wm3)) pm_2 ?_
  refine g_icmp_eq 331 hC 336 (by decide) d_law_331 (fun _ => ?_) (fun h9 => absurd rfl h9)
  refine g_iload 336 hC (j := 1) (hj := rfl) (hd := d_law_336) ?_
  refine g_if_ne 338 hC 353 (by decide) d_law_338 (fun _ => ?_) (fun h9 => absurd h9 (by decide))
  refine g_goto 353 hC 687 (by decide) d_law_353 ?_
  refine g_lvp [2, 3, 4, 5, 6] rfl ?_
  exact g_wide (152 + (N - 16384) + (i + 6)) (398815 + 2 * (N - 16384) + (i + 6)) (by omega) (by omega) (nx s N wx wm3 f 1 hs hx hm3)
theorem kt_pack : (Jvm.Cond.static ({ cls := "RotationPressLaw", name := "pack", desc := "(LRotationPress;I[J)I" } : Jvm.MethodName)) ∈ g_tbl := List.mem_filter.mpr ⟨List.mem_append_right (k2_sels lw_privs) (List.mem_append_right _ (List.mem_append_right _ (List.mem_append_left _ (List.mem_of_getElem? (l := tables_1_3) (i := 141) rfl)))), rfl⟩
theorem kk_pack : (Jvm.Cond.methodLink "RotationPressLaw" (72 : Nat) ({ cls := "RotationPressLaw", name := "pack", desc := "(LRotationPress;I[J)I" } : Jvm.MethodName)) ∈ g_tbl := List.mem_filter.mpr ⟨List.mem_append_right (k2_sels lw_privs) (List.mem_append_right _ (List.mem_append_right _ (List.mem_append_left _ (List.mem_of_getElem? (l := tables_1_3) (i := 140) rfl)))), rfl⟩
theorem mx_pack : (Jvm.Cond.code ({ cls := "RotationPressModel", name := "pack", desc := "(I)I" } : Jvm.MethodName) prog_14_method_28_code (8 : Nat) (Option.some Jvm.ClassFile.FieldType.int)) ∈ g_tbl := List.mem_filter.mpr ⟨List.mem_append_right (k2_sels lw_privs) (List.mem_append_right _ (List.mem_append_right _ (List.mem_append_right _ (List.mem_append_right _ (List.mem_append_right _ (List.mem_append_left _ (List.mem_of_getElem? (l := tables_1_6) (i := 195) rfl))))))), rfl⟩
theorem ml_pack : (Jvm.Cond.methodLink "RotationPressLaw" (75 : Nat) ({ cls := "RotationPressModel", name := "pack", desc := "(I)I" } : Jvm.MethodName)) ∈ g_tbl := List.mem_filter.mpr ⟨List.mem_append_right (k2_sels lw_privs) (List.mem_append_right _ (List.mem_append_right _ (List.mem_append_right _ (List.mem_append_right _ (List.mem_append_right _ (List.mem_append_left _ (List.mem_of_getElem? (l := tables_1_6) (i := 192) rfl))))))), rfl⟩
theorem mm_pack : (Jvm.Cond.instanceMethod ({ cls := "RotationPressModel", name := "pack", desc := "(I)I" } : Jvm.MethodName)) ∈ g_tbl := List.mem_filter.mpr ⟨List.mem_append_right (k2_sels lw_privs) (List.mem_append_right _ (List.mem_append_right _ (List.mem_append_right _ (List.mem_append_right _ (List.mem_append_right _ (List.mem_append_left _ (List.mem_of_getElem? (l := tables_1_6) (i := 193) rfl))))))), rfl⟩
theorem ms_pack : (Jvm.Cond.selects "RotationPressModel" ({ cls := "RotationPressModel", name := "pack", desc := "(I)I" } : Jvm.MethodName) ({ cls := "RotationPressModel", name := "pack", desc := "(I)I" } : Jvm.MethodName)) ∈ g_tbl := List.mem_filter.mpr ⟨List.mem_append_right (k2_sels lw_privs) (List.mem_append_right _ (List.mem_append_right _ (List.mem_append_right _ (List.mem_append_right _ (List.mem_append_right _ (List.mem_append_left _ (List.mem_of_getElem? (l := tables_1_6) (i := 194) rfl))))))), rfl⟩
theorem L_pack {C : gT} {b L : Nat} {xs : Nat → Int32} (hL : LW C b L xs) {q qx qm i N k n : Nat} {kk : Int32} {f : Nat → Int64} {wx wm : va_W} {s : ST} (hi : i + 6 ≤ L) (hs : stOk s) (hx : CX (g_K C) qx s N wx) (hm : CM (g_K C) qm s kk wm) (hk : k = 152 + (N - 16384) + i) (hn : n = 398815 + 2 * (N - 16384) + i) (nx : NXt C b qx qm q i) {lv : Nat} (h1 : 1 ≤ lv) (h9 : lv ≤ 9) (ep : xs (i + 1) = nI lv) : gAt C k n (ocell (g_K C) q f :: (wx ++ wm)) (lvH b qx qm q i) 356 [] := by
  obtain ⟨hC, hTs, hA, hX, hL9, hst⟩ := hL
  obtain ⟨⟨fs, hq⟩, hN1, hN2⟩ := CX_0 hx
  obtain ⟨fm, hqm⟩ := CM_0 hm
  have hO := Ox_pack (g_l C) (g_D C) (g_K C) lv hx hs h1 h9
  rw [← ep] at hO
  obtain ⟨rm, N2, ⟨c1, c2⟩, ⟨r1, r2⟩, ⟨r3, r4⟩, hMx⟩ := hO
  have hW := w_pack q f (xs (i + 1)) { frames := 30, cells := N2 - N, slots := 2 * (N2 - N), locals := 1200 } hMx hq ⟨(show rm.frames + 1 ≤ 30 by omega), (show 8 + (2 + 11) + rm.locals ≤ 1200 by omega)⟩ r3 r4
  have hO2 := Om_pack (g_l C) (g_D C) (g_K C) lv hm hs h1 h9
  rw [← ep] at hO2
  obtain ⟨rm2, ⟨e1, e2⟩, ⟨e3, e4⟩, hMm⟩ := hO2
  refine g_aload_n 356 hC (j := 3) (hj := rfl) (hd := d_law_356) ?_
  refine g_aload_n 357 hC (j := 4) (hj := rfl) (hd := d_law_357) ?_
  refine g_iload 358 hC (j := 0) (hj := rfl) (hd := d_law_358) ?_
  refine g_iconst 360 hC (1 : Int32) (by decide) d_law_360 ?_
  refine g_iadd 361 hC d_law_361 ?_
  refine g_xald 362 hC hA hX (i + 1) (nI_add i 1) (by omega) (by omega) d_law_362 ?_
  refine g_aload_n 363 hC (j := 1) (hj := rfl) (hd := d_law_363) ?_
  refine a_callST 364 hC hTs hW kv_pack kw_inil kk_pack kt_pack 3 rfl (by decide +kernel) ⟨(show 30 + 1 ≤ 2048 by omega), (show 8 + (_ + 11) + 1200 ≤ 84000 by omega)⟩ rfl (Nat.le_of_ble_eq_true rfl) (k + (N2 - N)) (n + 2 * (N2 - N)) (Nat.le_refl _) (Nat.le_refl _) (show _ ≤ 601024 by omega) (show _ ≤ 7293034 by omega) d_law_364 (fun x r hr => ?_)
  obtain ⟨wx2, hx2⟩ := x
  have hr : r = 0 := hr
  subst hr
  refine g_istore 367 hC _ (by decide) rfl d_law_367 ?_
  refine g_aload_n 369 hC (j := 3) (hj := rfl) (hd := d_law_369) ?_
  refine g_aload_n 370 hC (j := 5) (hj := rfl) (hd := d_law_370) ?_
  refine g_iload 371 hC (j := 1) (hj := rfl) (hd := d_law_371) ?_
  refine g_iconst 373 hC (1 : Int32) (by decide) d_law_373 ?_
  refine g_iadd 374 hC d_law_374 ?_
  refine g_xald 375 hC hA hX (i + 1) (nI_add i 1) (by omega) (by omega) d_law_375 ?_
  refine g_perm (ws2 := wm ++ (ocell (g_K C) q (vp_updL f 0 (nI (PS s.T s.F lv).c).toInt64) :: wx2)) pm_1 ?_
  refine a_callVi 376 hC hMm mx_pack kw_inim ml_pack mm_pack ms_pack 1 rfl (by decide +kernel) ⟨(show _ + 1 ≤ 2048 by omega), (show 8 + (8 + 11) + _ ≤ 84000 by omega)⟩ 12 rfl rfl hqm rfl (Nat.le_of_ble_eq_true rfl) (k + (N2 - N)) (n + 2 * (N2 - N)) (by omega) (by omega) (show _ ≤ 601024 by omega) (show _ ≤ 7293034 by omega) d_law_376 (fun y => ?_)
  obtain ⟨wm2, hm2⟩ := y
  obtain ⟨fm2, hqm2⟩ := CM_0 hm2
  refine g_istore 379 hC _ (by decide) rfl d_law_379 ?_
  refine g_aload_n 381 hC (j := 4) (hj := rfl) (hd := d_law_381) ?_
  obtain ⟨rm3, ⟨t1, t2⟩, ⟨t3, t4⟩, hMt⟩ := Om_thrown (g_l C) (g_D C) (g_K C) hm2
  refine a_callVi 382 hC hMt mx_thrown kw_inim ml_thrown mm_thrown ms_thrown 0 rfl (by decide +kernel) ⟨(show _ + 1 ≤ 2048 by omega), (show 8 + (1 + 11) + _ ≤ 84000 by omega)⟩ 12 rfl rfl hqm2 rfl (Nat.le_of_ble_eq_true rfl) (k + (N2 - N)) (n + 2 * (N2 - N)) (by omega) (by omega) (show _ ≤ 601024 by omega) (show _ ≤ 7293034 by omega) d_law_382 (fun y => ?_)
  obtain ⟨wm3, hm3⟩ := y
  refine g_iload 385 hC (j := 1) (hj := rfl) (hd := d_law_385) ?_
  refine g_perm (ws2 := ocell (g_K C) q (vp_updL f 0 (nI (PS s.T s.F lv).c).toInt64) :: (wx2 ++ wm3)) pm_2 ?_
  refine g_icmp_eq 387 hC 392 (by decide) d_law_387 (fun _ => ?_) (fun h9 => absurd rfl h9)
  refine g_iload 392 hC (j := 1) (hj := rfl) (hd := d_law_392) ?_
  refine g_if_ne 394 hC 409 (by decide) d_law_394 (fun h9 => absurd rfl h9) (fun _ => ?_)
  refine g_aload_n 397 hC (j := 3) (hj := rfl) (hd := d_law_397) ?_
  refine g_iconst 398 hC (0 : Int32) (by decide) d_law_398 ?_
  refine g_lald 399 hC 0 rfl rfl d_law_399 ?_
  refine g_iload 400 hC (j := 0) (hj := rfl) (hd := d_law_400) ?_
  refine g_i2l 402 hC d_law_402 ?_
  refine g_lcmp 403 hC (if_pos rfl) d_law_403 ?_
  refine g_if_eq 404 hC 409 (by decide) d_law_404 (fun _ => ?_) (fun h9 => absurd rfl h9)
  refine g_goto 409 hC 687 (by decide) d_law_409 ?_
  refine g_lvp [2, 3, 4, 5, 6] rfl ?_
  exact g_wide (152 + (N2 - 16384) + (i + 6)) (398815 + 2 * (N2 - 16384) + (i + 6)) (by omega) (by omega) (nx (sPack s lv) N2 wx2 wm3 (vp_updL f 0 (nI (PS s.T s.F lv).c).toInt64) 0 (pack_ok hs h1 h9) hx2 hm3)
theorem L_packr {C : gT} {b L : Nat} {xs : Nat → Int32} (hL : LW C b L xs) {q qx qm i N k n : Nat} {kk : Int32} {f : Nat → Int64} {wx wm : va_W} {s : ST} (hi : i + 6 ≤ L) (hs : stOk s) (hx : CX (g_K C) qx s N wx) (hm : CM (g_K C) qm s kk wm) (hk : k = 152 + (N - 16384) + i) (hn : n = 398815 + 2 * (N - 16384) + i) (nx : NXt C b qx qm q i) (hp : xs (i + 1) < 1 ∨ ¬ xs (i + 1) ≤ 9) : gAt C k n (ocell (g_K C) q f :: (wx ++ wm)) (lvH b qx qm q i) 356 [] := by
  obtain ⟨hC, hTs, hA, hX, hL9, hst⟩ := hL
  obtain ⟨⟨fs, hq⟩, hN1, hN2⟩ := CX_0 hx
  obtain ⟨fm, hqm⟩ := CM_0 hm
  have hT := Tx_pack (g_l C) hst (g_D C) (g_K C) (xs (i + 1)) hx hp
  have hW := wt_pack q f (xs (i + 1)) { frames := 30, cells := 1, slots := 6, locals := 1200 } hT hq ⟨(show 6 + 1 ≤ 30 by omega), (show 8 + (2 + 11) + 90 ≤ 1200 by omega)⟩ (Nat.le_refl _) (Nat.le_refl _)
  obtain ⟨rm2, ⟨e1, e2⟩, ⟨e3, e4⟩, hMm⟩ := Om_packr (g_l C) (g_D C) (g_K C) (xs (i + 1)) hm hp
  refine g_aload_n 356 hC (j := 3) (hj := rfl) (hd := d_law_356) ?_
  refine g_aload_n 357 hC (j := 4) (hj := rfl) (hd := d_law_357) ?_
  refine g_iload 358 hC (j := 0) (hj := rfl) (hd := d_law_358) ?_
  refine g_iconst 360 hC (1 : Int32) (by decide) d_law_360 ?_
  refine g_iadd 361 hC d_law_361 ?_
  refine g_xald 362 hC hA hX (i + 1) (nI_add i 1) (by omega) (by omega) d_law_362 ?_
  refine g_aload_n 363 hC (j := 1) (hj := rfl) (hd := d_law_363) ?_
  refine a_callST 364 hC hTs hW kv_pack kw_inil kk_pack kt_pack 3 rfl (by decide +kernel) ⟨(show 30 + 1 ≤ 2048 by omega), (show 8 + (_ + 11) + 1200 ≤ 84000 by omega)⟩ rfl (Nat.le_of_ble_eq_true rfl) (k + 1) (n + 6) (Nat.le_refl _) (Nat.le_refl _) (show _ ≤ 601024 by omega) (show _ ≤ 7293034 by omega) d_law_364 (fun x r hr => ?_)
  have hr : r = 1 := hr
  subst hr
  refine g_istore 367 hC _ (by decide) rfl d_law_367 ?_
  refine g_aload_n 369 hC (j := 3) (hj := rfl) (hd := d_law_369) ?_
  refine g_aload_n 370 hC (j := 5) (hj := rfl) (hd := d_law_370) ?_
  refine g_iload 371 hC (j := 1) (hj := rfl) (hd := d_law_371) ?_
  refine g_iconst 373 hC (1 : Int32) (by decide) d_law_373 ?_
  refine g_iadd 374 hC d_law_374 ?_
  refine g_xald 375 hC hA hX (i + 1) (nI_add i 1) (by omega) (by omega) d_law_375 ?_
  refine g_perm (ws2 := wm ++ (ocell (g_K C) q f :: wx)) pm_1 ?_
  refine a_callVi 376 hC hMm mx_pack kw_inim ml_pack mm_pack ms_pack 1 rfl (by decide +kernel) ⟨(show _ + 1 ≤ 2048 by omega), (show 8 + (8 + 11) + _ ≤ 84000 by omega)⟩ 12 rfl rfl hqm rfl (Nat.le_of_ble_eq_true rfl) (k + 1) (n + 6) (by omega) (by omega) (show _ ≤ 601024 by omega) (show _ ≤ 7293034 by omega) d_law_376 (fun y => ?_)
  obtain ⟨wm2, hm2⟩ := y
  obtain ⟨fm2, hqm2⟩ := CM_0 hm2
  refine g_istore 379 hC _ (by decide) rfl d_law_379 ?_
  refine g_aload_n 381 hC (j := 4) (hj := rfl) (hd := d_law_381) ?_
  obtain ⟨rm3, ⟨t1, t2⟩, ⟨t3, t4⟩, hMt⟩ := Om_thrown (g_l C) (g_D C) (g_K C) hm2
  refine a_callVi 382 hC hMt mx_thrown kw_inim ml_thrown mm_thrown ms_thrown 0 rfl (by decide +kernel) ⟨(show _ + 1 ≤ 2048 by omega), (show 8 + (1 + 11) + _ ≤ 84000 by omega)⟩ 12 rfl rfl hqm2 rfl (Nat.le_of_ble_eq_true rfl) (k + 1) (n + 6) (by omega) (by omega) (show _ ≤ 601024 by omega) (show _ ≤ 7293034 by omega) d_law_382 (fun y => ?_)
  obtain ⟨wm3, hm3⟩ := y
  refine g_iload 385 hC (j := 1) (hj := rfl) (hd := d_law_385) ?_
  refine g_perm (ws2 := ocell (g_K C) q f :: (wx ++ wm3)) pm_2 ?_
  refine g_icmp_eq 387 hC 392 (by decide) d_law_387 (fun _ => ?_) (fun h9 => absurd rfl h9)
  refine g_iload 392 hC (j := 1) (hj := rfl) (hd := d_law_392) ?_
  refine g_if_ne 394 hC 409 (by decide) d_law_394 (fun _ => ?_) (fun h9 => absurd h9 (by decide))
  refine g_goto 409 hC 687 (by decide) d_law_409 ?_
  refine g_lvp [2, 3, 4, 5, 6] rfl ?_
  exact g_wide (152 + (N - 16384) + (i + 6)) (398815 + 2 * (N - 16384) + (i + 6)) (by omega) (by omega) (nx s N wx wm3 f 1 hs hx hm3)
theorem kt_unpack : (Jvm.Cond.static ({ cls := "RotationPressLaw", name := "unpack", desc := "(LRotationPress;I[J)I" } : Jvm.MethodName)) ∈ g_tbl := List.mem_filter.mpr ⟨List.mem_append_right (k2_sels lw_privs) (List.mem_append_right _ (List.mem_append_right _ (List.mem_append_right _ (List.mem_append_right _ (List.mem_append_left _ (List.mem_of_getElem? (l := tables_1_5) (i := 107) rfl)))))), rfl⟩
theorem kk_unpack : (Jvm.Cond.methodLink "RotationPressLaw" (76 : Nat) ({ cls := "RotationPressLaw", name := "unpack", desc := "(LRotationPress;I[J)I" } : Jvm.MethodName)) ∈ g_tbl := List.mem_filter.mpr ⟨List.mem_append_right (k2_sels lw_privs) (List.mem_append_right _ (List.mem_append_right _ (List.mem_append_right _ (List.mem_append_right _ (List.mem_append_left _ (List.mem_of_getElem? (l := tables_1_5) (i := 106) rfl)))))), rfl⟩
theorem mx_unpack : (Jvm.Cond.code ({ cls := "RotationPressModel", name := "unpack", desc := "(I)I" } : Jvm.MethodName) prog_14_method_51_code (6 : Nat) (Option.some Jvm.ClassFile.FieldType.int)) ∈ g_tbl := List.mem_filter.mpr ⟨List.mem_append_right (k2_sels lw_privs) (List.mem_append_right _ (List.mem_append_right _ (List.mem_append_right _ (List.mem_append_right _ (List.mem_append_right _ (List.mem_append_right _ (List.mem_of_getElem? (l := tables_1_7) (i := 64) rfl))))))), rfl⟩
theorem ml_unpack : (Jvm.Cond.methodLink "RotationPressLaw" (78 : Nat) ({ cls := "RotationPressModel", name := "unpack", desc := "(I)I" } : Jvm.MethodName)) ∈ g_tbl := List.mem_filter.mpr ⟨List.mem_append_right (k2_sels lw_privs) (List.mem_append_right _ (List.mem_append_right _ (List.mem_append_right _ (List.mem_append_right _ (List.mem_append_right _ (List.mem_append_right _ (List.mem_of_getElem? (l := tables_1_7) (i := 61) rfl))))))), rfl⟩
theorem mm_unpack : (Jvm.Cond.instanceMethod ({ cls := "RotationPressModel", name := "unpack", desc := "(I)I" } : Jvm.MethodName)) ∈ g_tbl := List.mem_filter.mpr ⟨List.mem_append_right (k2_sels lw_privs) (List.mem_append_right _ (List.mem_append_right _ (List.mem_append_right _ (List.mem_append_right _ (List.mem_append_right _ (List.mem_append_right _ (List.mem_of_getElem? (l := tables_1_7) (i := 62) rfl))))))), rfl⟩
theorem ms_unpack : (Jvm.Cond.selects "RotationPressModel" ({ cls := "RotationPressModel", name := "unpack", desc := "(I)I" } : Jvm.MethodName) ({ cls := "RotationPressModel", name := "unpack", desc := "(I)I" } : Jvm.MethodName)) ∈ g_tbl := List.mem_filter.mpr ⟨List.mem_append_right (k2_sels lw_privs) (List.mem_append_right _ (List.mem_append_right _ (List.mem_append_right _ (List.mem_append_right _ (List.mem_append_right _ (List.mem_append_right _ (List.mem_of_getElem? (l := tables_1_7) (i := 63) rfl))))))), rfl⟩
theorem L_unpack {C : gT} {b L : Nat} {xs : Nat → Int32} (hL : LW C b L xs) {q qx qm i N k n : Nat} {kk : Int32} {f : Nat → Int64} {wx wm : va_W} {s : ST} (hi : i + 6 ≤ L) (hs : stOk s) (hx : CX (g_K C) qx s N wx) (hm : CM (g_K C) qm s kk wm) (hk : k = 152 + (N - 16384) + i) (hn : n = 398815 + 2 * (N - 16384) + i) (nx : NXt C b qx qm q i) {lim : Nat} (hl : lim ≤ 60000) (ep : xs (i + 1) = nI lim) : gAt C k n (ocell (g_K C) q f :: (wx ++ wm)) (lvH b qx qm q i) 412 [] := by
  obtain ⟨hC, hTs, hA, hX, hL9, hst⟩ := hL
  obtain ⟨⟨fs, hq⟩, hN1, hN2⟩ := CX_0 hx
  obtain ⟨fm, hqm⟩ := CM_0 hm
  have hO := Ox_unpack (g_l C) (g_D C) (g_K C) lim hx hs hl
  rw [← ep] at hO
  obtain ⟨rm, N2, ⟨c1, c2⟩, ⟨r1, r2⟩, ⟨r3, r4⟩, hMx⟩ := hO
  have hW := w_unpack q f (xs (i + 1)) { frames := 30, cells := N2 - N, slots := 2 * (N2 - N), locals := 1200 } hMx hq ⟨(show rm.frames + 1 ≤ 30 by omega), (show 8 + (3 + 11) + rm.locals ≤ 1200 by omega)⟩ r3 r4
  have hO2 := Om_unpack (g_l C) (g_D C) (g_K C) lim hm hs hl
  rw [← ep] at hO2
  obtain ⟨rm2, ⟨e1, e2⟩, ⟨e3, e4⟩, hMm⟩ := hO2
  refine g_aload_n 412 hC (j := 3) (hj := rfl) (hd := d_law_412) ?_
  refine g_aload_n 413 hC (j := 4) (hj := rfl) (hd := d_law_413) ?_
  refine g_iload 414 hC (j := 0) (hj := rfl) (hd := d_law_414) ?_
  refine g_iconst 416 hC (1 : Int32) (by decide) d_law_416 ?_
  refine g_iadd 417 hC d_law_417 ?_
  refine g_xald 418 hC hA hX (i + 1) (nI_add i 1) (by omega) (by omega) d_law_418 ?_
  refine g_aload_n 419 hC (j := 1) (hj := rfl) (hd := d_law_419) ?_
  refine a_callST 420 hC hTs hW kv_unpack kw_inil kk_unpack kt_unpack 3 rfl (by decide +kernel) ⟨(show 30 + 1 ≤ 2048 by omega), (show 8 + (_ + 11) + 1200 ≤ 84000 by omega)⟩ rfl (Nat.le_of_ble_eq_true rfl) (k + (N2 - N)) (n + 2 * (N2 - N)) (Nat.le_refl _) (Nat.le_refl _) (show _ ≤ 601024 by omega) (show _ ≤ 7293034 by omega) d_law_420 (fun x r hr => ?_)
  obtain ⟨wx2, hx2⟩ := x
  have hr : r = 0 := hr
  subst hr
  refine g_istore 423 hC _ (by decide) rfl d_law_423 ?_
  refine g_aload_n 425 hC (j := 3) (hj := rfl) (hd := d_law_425) ?_
  refine g_aload_n 426 hC (j := 5) (hj := rfl) (hd := d_law_426) ?_
  refine g_iload 427 hC (j := 1) (hj := rfl) (hd := d_law_427) ?_
  refine g_iconst 429 hC (1 : Int32) (by decide) d_law_429 ?_
  refine g_iadd 430 hC d_law_430 ?_
  refine g_xald 431 hC hA hX (i + 1) (nI_add i 1) (by omega) (by omega) d_law_431 ?_
  refine g_perm (ws2 := wm ++ (ocell (g_K C) q (vp_updL f 0 (rUnpack s lim).toInt64) :: wx2)) pm_1 ?_
  refine a_callVi 432 hC hMm mx_unpack kw_inim ml_unpack mm_unpack ms_unpack 1 rfl (by decide +kernel) ⟨(show _ + 1 ≤ 2048 by omega), (show 8 + (6 + 11) + _ ≤ 84000 by omega)⟩ 12 rfl rfl hqm rfl (Nat.le_of_ble_eq_true rfl) (k + (N2 - N)) (n + 2 * (N2 - N)) (by omega) (by omega) (show _ ≤ 601024 by omega) (show _ ≤ 7293034 by omega) d_law_432 (fun y => ?_)
  obtain ⟨wm2, hm2⟩ := y
  obtain ⟨fm2, hqm2⟩ := CM_0 hm2
  refine g_istore 435 hC _ (by decide) rfl d_law_435 ?_
  refine g_aload_n 437 hC (j := 4) (hj := rfl) (hd := d_law_437) ?_
  obtain ⟨rm3, ⟨t1, t2⟩, ⟨t3, t4⟩, hMt⟩ := Om_thrown (g_l C) (g_D C) (g_K C) hm2
  refine a_callVi 438 hC hMt mx_thrown kw_inim ml_thrown mm_thrown ms_thrown 0 rfl (by decide +kernel) ⟨(show _ + 1 ≤ 2048 by omega), (show 8 + (1 + 11) + _ ≤ 84000 by omega)⟩ 12 rfl rfl hqm2 rfl (Nat.le_of_ble_eq_true rfl) (k + (N2 - N)) (n + 2 * (N2 - N)) (by omega) (by omega) (show _ ≤ 601024 by omega) (show _ ≤ 7293034 by omega) d_law_438 (fun y => ?_)
  obtain ⟨wm3, hm3⟩ := y
  refine g_iload 441 hC (j := 1) (hj := rfl) (hd := d_law_441) ?_
  refine g_perm (ws2 := ocell (g_K C) q (vp_updL f 0 (rUnpack s lim).toInt64) :: (wx2 ++ wm3)) pm_2 ?_
  refine g_icmp_eq 443 hC 448 (by decide) d_law_443 (fun _ => ?_) (fun h9 => absurd rfl h9)
  refine g_iload 448 hC (j := 1) (hj := rfl) (hd := d_law_448) ?_
  refine g_if_ne 450 hC 465 (by decide) d_law_450 (fun h9 => absurd rfl h9) (fun _ => ?_)
  refine g_aload_n 453 hC (j := 3) (hj := rfl) (hd := d_law_453) ?_
  refine g_iconst 454 hC (0 : Int32) (by decide) d_law_454 ?_
  refine g_lald 455 hC 0 rfl rfl d_law_455 ?_
  refine g_iload 456 hC (j := 0) (hj := rfl) (hd := d_law_456) ?_
  refine g_i2l 458 hC d_law_458 ?_
  refine g_lcmp 459 hC (if_pos rfl) d_law_459 ?_
  refine g_if_eq 460 hC 465 (by decide) d_law_460 (fun _ => ?_) (fun h9 => absurd rfl h9)
  refine g_goto 465 hC 687 (by decide) d_law_465 ?_
  refine g_lvp [2, 3, 4, 5, 6] rfl ?_
  exact g_wide (152 + (N2 - 16384) + (i + 6)) (398815 + 2 * (N2 - 16384) + (i + 6)) (by omega) (by omega) (nx (sUnpack s lim) N2 wx2 wm3 (vp_updL f 0 (rUnpack s lim).toInt64) 0 (unpack_ok hs hl) hx2 hm3)
theorem L_unpackr {C : gT} {b L : Nat} {xs : Nat → Int32} (hL : LW C b L xs) {q qx qm i N k n : Nat} {kk : Int32} {f : Nat → Int64} {wx wm : va_W} {s : ST} (hi : i + 6 ≤ L) (hs : stOk s) (hx : CX (g_K C) qx s N wx) (hm : CM (g_K C) qm s kk wm) (hk : k = 152 + (N - 16384) + i) (hn : n = 398815 + 2 * (N - 16384) + i) (nx : NXt C b qx qm q i) (hp : xs (i + 1) < 0 ∨ ¬ xs (i + 1) ≤ 60000) : gAt C k n (ocell (g_K C) q f :: (wx ++ wm)) (lvH b qx qm q i) 412 [] := by
  obtain ⟨hC, hTs, hA, hX, hL9, hst⟩ := hL
  obtain ⟨⟨fs, hq⟩, hN1, hN2⟩ := CX_0 hx
  obtain ⟨fm, hqm⟩ := CM_0 hm
  have hT := Tx_unpack (g_l C) hst (g_D C) (g_K C) (xs (i + 1)) hx hp
  have hW := wt_unpack q f (xs (i + 1)) { frames := 30, cells := 1, slots := 6, locals := 1200 } hT hq ⟨(show 6 + 1 ≤ 30 by omega), (show 8 + (3 + 11) + 90 ≤ 1200 by omega)⟩ (Nat.le_refl _) (Nat.le_refl _)
  obtain ⟨rm2, ⟨e1, e2⟩, ⟨e3, e4⟩, hMm⟩ := Om_unpackr (g_l C) (g_D C) (g_K C) (xs (i + 1)) hm hp
  refine g_aload_n 412 hC (j := 3) (hj := rfl) (hd := d_law_412) ?_
  refine g_aload_n 413 hC (j := 4) (hj := rfl) (hd := d_law_413) ?_
  refine g_iload 414 hC (j := 0) (hj := rfl) (hd := d_law_414) ?_
  refine g_iconst 416 hC (1 : Int32) (by decide) d_law_416 ?_
  refine g_iadd 417 hC d_law_417 ?_
  refine g_xald 418 hC hA hX (i + 1) (nI_add i 1) (by omega) (by omega) d_law_418 ?_
  refine g_aload_n 419 hC (j := 1) (hj := rfl) (hd := d_law_419) ?_
  refine a_callST 420 hC hTs hW kv_unpack kw_inil kk_unpack kt_unpack 3 rfl (by decide +kernel) ⟨(show 30 + 1 ≤ 2048 by omega), (show 8 + (_ + 11) + 1200 ≤ 84000 by omega)⟩ rfl (Nat.le_of_ble_eq_true rfl) (k + 1) (n + 6) (Nat.le_refl _) (Nat.le_refl _) (show _ ≤ 601024 by omega) (show _ ≤ 7293034 by omega) d_law_420 (fun x r hr => ?_)
  have hr : r = 1 := hr
  subst hr
  refine g_istore 423 hC _ (by decide) rfl d_law_423 ?_
  refine g_aload_n 425 hC (j := 3) (hj := rfl) (hd := d_law_425) ?_
  refine g_aload_n 426 hC (j := 5) (hj := rfl) (hd := d_law_426) ?_
  refine g_iload 427 hC (j := 1) (hj := rfl) (hd := d_law_427) ?_
  refine g_iconst 429 hC (1 : Int32) (by decide) d_law_429 ?_
  refine g_iadd 430 hC d_law_430 ?_
  refine g_xald 431 hC hA hX (i + 1) (nI_add i 1) (by omega) (by omega) d_law_431 ?_
  refine g_perm (ws2 := wm ++ (ocell (g_K C) q f :: wx)) pm_1 ?_
  refine a_callVi 432 hC hMm mx_unpack kw_inim ml_unpack mm_unpack ms_unpack 1 rfl (by decide +kernel) ⟨(show _ + 1 ≤ 2048 by omega), (show 8 + (6 + 11) + _ ≤ 84000 by omega)⟩ 12 rfl rfl hqm rfl (Nat.le_of_ble_eq_true rfl) (k + 1) (n + 6) (by omega) (by omega) (show _ ≤ 601024 by omega) (show _ ≤ 7293034 by omega) d_law_432 (fun y => ?_)
  obtain ⟨wm2, hm2⟩ := y
  obtain ⟨fm2, hqm2⟩ := CM_0 hm2
  refine g_istore 435 hC _ (by decide) rfl d_law_435 ?_
  refine g_aload_n 437 hC (j := 4) (hj := rfl) (hd := d_law_437) ?_
  obtain ⟨rm3, ⟨t1, t2⟩, ⟨t3, t4⟩, hMt⟩ := Om_thrown (g_l C) (g_D C) (g_K C) hm2
  refine a_callVi 438 hC hMt mx_thrown kw_inim ml_thrown mm_thrown ms_thrown 0 rfl (by decide +kernel) ⟨(show _ + 1 ≤ 2048 by omega), (show 8 + (1 + 11) + _ ≤ 84000 by omega)⟩ 12 rfl rfl hqm2 rfl (Nat.le_of_ble_eq_true rfl) (k + 1) (n + 6) (by omega) (by omega) (show _ ≤ 601024 by omega) (show _ ≤ 7293034 by omega) d_law_438 (fun y => ?_)
  obtain ⟨wm3, hm3⟩ := y
  refine g_iload 441 hC (j := 1) (hj := rfl) (hd := d_law_441) ?_
  refine g_perm (ws2 := ocell (g_K C) q f :: (wx ++ wm3)) pm_2 ?_
  refine g_icmp_eq 443 hC 448 (by decide) d_law_443 (fun _ => ?_) (fun h9 => absurd rfl h9)
  refine g_iload 448 hC (j := 1) (hj := rfl) (hd := d_law_448) ?_
  refine g_if_ne 450 hC 465 (by decide) d_law_450 (fun _ => ?_) (fun h9 => absurd h9 (by decide))
  refine g_goto 465 hC 687 (by decide) d_law_465 ?_
  refine g_lvp [2, 3, 4, 5, 6] rfl ?_
  exact g_wide (152 + (N - 16384) + (i + 6)) (398815 + 2 * (N - 16384) + (i + 6)) (by omega) (by omega) (nx s N wx wm3 f 1 hs hx hm3)
theorem kx_place : (Jvm.Cond.code ({ cls := "RotationPress", name := "place", desc := "()I" } : Jvm.MethodName) prog_1_method_8_code (1 : Nat) (Option.some Jvm.ClassFile.FieldType.int)) ∈ g_tbl := List.mem_filter.mpr ⟨List.mem_append_right (k2_sels lw_privs) (List.mem_append_right _ (List.mem_append_left _ (List.mem_of_getElem? (l := tables_1_2) (i := 199) rfl))), rfl⟩
theorem kl_place : (Jvm.Cond.methodLink "RotationPressLaw" (79 : Nat) ({ cls := "RotationPress", name := "place", desc := "()I" } : Jvm.MethodName)) ∈ g_tbl := List.mem_filter.mpr ⟨List.mem_append_right (k2_sels lw_privs) (List.mem_append_right _ (List.mem_append_left _ (List.mem_of_getElem? (l := tables_1_2) (i := 196) rfl))), rfl⟩
theorem km_place : (Jvm.Cond.instanceMethod ({ cls := "RotationPress", name := "place", desc := "()I" } : Jvm.MethodName)) ∈ g_tbl := List.mem_filter.mpr ⟨List.mem_append_right (k2_sels lw_privs) (List.mem_append_right _ (List.mem_append_left _ (List.mem_of_getElem? (l := tables_1_2) (i := 197) rfl))), rfl⟩
theorem ks_place : (Jvm.Cond.selects "RotationPress" ({ cls := "RotationPress", name := "place", desc := "()I" } : Jvm.MethodName) ({ cls := "RotationPress", name := "place", desc := "()I" } : Jvm.MethodName)) ∈ g_tbl := List.mem_filter.mpr ⟨List.mem_append_right (k2_sels lw_privs) (List.mem_append_right _ (List.mem_append_left _ (List.mem_of_getElem? (l := tables_1_2) (i := 198) rfl))), rfl⟩
theorem mx_place : (Jvm.Cond.code ({ cls := "RotationPressModel", name := "place", desc := "()I" } : Jvm.MethodName) prog_14_method_31_code (1 : Nat) (Option.some Jvm.ClassFile.FieldType.int)) ∈ g_tbl := List.mem_filter.mpr ⟨List.mem_append_right (k2_sels lw_privs) (List.mem_append_right _ (List.mem_append_right _ (List.mem_append_right _ (List.mem_append_right _ (List.mem_append_right _ (List.mem_append_right _ (List.mem_of_getElem? (l := tables_1_7) (i := 48) rfl))))))), rfl⟩
theorem ml_place : (Jvm.Cond.methodLink "RotationPressLaw" (82 : Nat) ({ cls := "RotationPressModel", name := "place", desc := "()I" } : Jvm.MethodName)) ∈ g_tbl := List.mem_filter.mpr ⟨List.mem_append_right (k2_sels lw_privs) (List.mem_append_right _ (List.mem_append_right _ (List.mem_append_right _ (List.mem_append_right _ (List.mem_append_right _ (List.mem_append_right _ (List.mem_of_getElem? (l := tables_1_7) (i := 45) rfl))))))), rfl⟩
theorem mm_place : (Jvm.Cond.instanceMethod ({ cls := "RotationPressModel", name := "place", desc := "()I" } : Jvm.MethodName)) ∈ g_tbl := List.mem_filter.mpr ⟨List.mem_append_right (k2_sels lw_privs) (List.mem_append_right _ (List.mem_append_right _ (List.mem_append_right _ (List.mem_append_right _ (List.mem_append_right _ (List.mem_append_right _ (List.mem_of_getElem? (l := tables_1_7) (i := 46) rfl))))))), rfl⟩
theorem ms_place : (Jvm.Cond.selects "RotationPressModel" ({ cls := "RotationPressModel", name := "place", desc := "()I" } : Jvm.MethodName) ({ cls := "RotationPressModel", name := "place", desc := "()I" } : Jvm.MethodName)) ∈ g_tbl := List.mem_filter.mpr ⟨List.mem_append_right (k2_sels lw_privs) (List.mem_append_right _ (List.mem_append_right _ (List.mem_append_right _ (List.mem_append_right _ (List.mem_append_right _ (List.mem_append_right _ (List.mem_of_getElem? (l := tables_1_7) (i := 47) rfl))))))), rfl⟩
theorem L_place {C : gT} {b L : Nat} {xs : Nat → Int32} (hL : LW C b L xs) {q qx qm i N k n : Nat} {kk : Int32} {f : Nat → Int64} {wx wm : va_W} {s : ST} (hi : i + 6 ≤ L) (hs : stOk s) (hx : CX (g_K C) qx s N wx) (hm : CM (g_K C) qm s kk wm) (hk : k = 152 + (N - 16384) + i) (hn : n = 398815 + 2 * (N - 16384) + i) (nx : NXt C b qx qm q i)  : gAt C k n (ocell (g_K C) q f :: (wx ++ wm)) (lvH b qx qm q i) 468 [] := by
  obtain ⟨hC, hTs, hA, hX, hL9, hst⟩ := hL
  obtain ⟨⟨fs, hq⟩, hN1, hN2⟩ := CX_0 hx
  obtain ⟨fm, hqm⟩ := CM_0 hm
  obtain ⟨rm, N2, ⟨c1, c2⟩, ⟨r1, r2⟩, ⟨r3, r4⟩, hMx⟩ := Ox_place (g_l C) (g_D C) (g_K C) hx
  obtain ⟨rm2, ⟨e1, e2⟩, ⟨e3, e4⟩, hMm⟩ := Om_place (g_l C) (g_D C) (g_K C) hm
  refine g_aload_n 468 hC (j := 3) (hj := rfl) (hd := d_law_468) ?_
  refine g_perm (ws2 := wx ++ (ocell (g_K C) q f :: wm)) List.perm_middle.symm ?_
  refine a_callVi 469 hC hMx kx_place kw_ini kl_place km_place ks_place 0 rfl (by decide +kernel) ⟨(show _ + 1 ≤ 2048 by omega), (show 8 + (1 + 11) + _ ≤ 84000 by omega)⟩ 0 rfl rfl hq rfl (Nat.le_of_ble_eq_true rfl) (k + (N2 - N)) (n + 2 * (N2 - N)) (by omega) (by omega) (show _ ≤ 601024 by omega) (show _ ≤ 7293034 by omega) d_law_469 (fun x => ?_)
  obtain ⟨wx2, hx2⟩ := x
  refine g_perm (ws2 := ocell (g_K C) q f :: (wx2 ++ wm)) List.perm_middle ?_
  refine g_aload_n 472 hC (j := 2) (hj := rfl) (hd := d_law_472) ?_
  refine g_perm (ws2 := wm ++ (ocell (g_K C) q f :: wx2)) pm_1 ?_
  refine a_callVi 473 hC hMm mx_place kw_inim ml_place mm_place ms_place 0 rfl (by decide +kernel) ⟨(show _ + 1 ≤ 2048 by omega), (show 8 + (1 + 11) + _ ≤ 84000 by omega)⟩ 12 rfl rfl hqm rfl (Nat.le_of_ble_eq_true rfl) (k + (N2 - N)) (n + 2 * (N2 - N)) (by omega) (by omega) (show _ ≤ 601024 by omega) (show _ ≤ 7293034 by omega) d_law_473 (fun y => ?_)
  obtain ⟨wm2, hm2⟩ := y
  obtain ⟨fm2, hqm2⟩ := CM_0 hm2
  refine g_perm (ws2 := ocell (g_K C) q f :: (wx2 ++ wm2)) pm_2 ?_
  refine g_icmp_eq 476 hC 687 (by decide) d_law_476 (fun _ => ?_) (fun h9 => absurd rfl h9)
  refine g_lvp [0, 1, 2, 3, 4] rfl ?_
  exact g_wide (152 + (N2 - 16384) + (i + 6)) (398815 + 2 * (N2 - 16384) + (i + 6)) (by omega) (by omega) (nx s N2 wx2 wm2 f 0 hs hx2 hm2)
theorem kx_length : (Jvm.Cond.code ({ cls := "RotationPress", name := "length", desc := "()I" } : Jvm.MethodName) prog_1_method_9_code (1 : Nat) (Option.some Jvm.ClassFile.FieldType.int)) ∈ g_tbl := List.mem_filter.mpr ⟨List.mem_append_right (k2_sels lw_privs) (List.mem_append_right _ (List.mem_append_left _ (List.mem_of_getElem? (l := tables_1_2) (i := 203) rfl))), rfl⟩
theorem kl_length : (Jvm.Cond.methodLink "RotationPressLaw" (83 : Nat) ({ cls := "RotationPress", name := "length", desc := "()I" } : Jvm.MethodName)) ∈ g_tbl := List.mem_filter.mpr ⟨List.mem_append_right (k2_sels lw_privs) (List.mem_append_right _ (List.mem_append_left _ (List.mem_of_getElem? (l := tables_1_2) (i := 200) rfl))), rfl⟩
theorem km_length : (Jvm.Cond.instanceMethod ({ cls := "RotationPress", name := "length", desc := "()I" } : Jvm.MethodName)) ∈ g_tbl := List.mem_filter.mpr ⟨List.mem_append_right (k2_sels lw_privs) (List.mem_append_right _ (List.mem_append_left _ (List.mem_of_getElem? (l := tables_1_2) (i := 201) rfl))), rfl⟩
theorem ks_length : (Jvm.Cond.selects "RotationPress" ({ cls := "RotationPress", name := "length", desc := "()I" } : Jvm.MethodName) ({ cls := "RotationPress", name := "length", desc := "()I" } : Jvm.MethodName)) ∈ g_tbl := List.mem_filter.mpr ⟨List.mem_append_right (k2_sels lw_privs) (List.mem_append_right _ (List.mem_append_left _ (List.mem_of_getElem? (l := tables_1_2) (i := 202) rfl))), rfl⟩
theorem mx_length : (Jvm.Cond.code ({ cls := "RotationPressModel", name := "length", desc := "()I" } : Jvm.MethodName) prog_14_method_32_code (1 : Nat) (Option.some Jvm.ClassFile.FieldType.int)) ∈ g_tbl := List.mem_filter.mpr ⟨List.mem_append_right (k2_sels lw_privs) (List.mem_append_right _ (List.mem_append_right _ (List.mem_append_right _ (List.mem_append_right _ (List.mem_append_right _ (List.mem_append_right _ (List.mem_of_getElem? (l := tables_1_7) (i := 52) rfl))))))), rfl⟩
theorem ml_length : (Jvm.Cond.methodLink "RotationPressLaw" (86 : Nat) ({ cls := "RotationPressModel", name := "length", desc := "()I" } : Jvm.MethodName)) ∈ g_tbl := List.mem_filter.mpr ⟨List.mem_append_right (k2_sels lw_privs) (List.mem_append_right _ (List.mem_append_right _ (List.mem_append_right _ (List.mem_append_right _ (List.mem_append_right _ (List.mem_append_right _ (List.mem_of_getElem? (l := tables_1_7) (i := 49) rfl))))))), rfl⟩
theorem mm_length : (Jvm.Cond.instanceMethod ({ cls := "RotationPressModel", name := "length", desc := "()I" } : Jvm.MethodName)) ∈ g_tbl := List.mem_filter.mpr ⟨List.mem_append_right (k2_sels lw_privs) (List.mem_append_right _ (List.mem_append_right _ (List.mem_append_right _ (List.mem_append_right _ (List.mem_append_right _ (List.mem_append_right _ (List.mem_of_getElem? (l := tables_1_7) (i := 50) rfl))))))), rfl⟩
theorem ms_length : (Jvm.Cond.selects "RotationPressModel" ({ cls := "RotationPressModel", name := "length", desc := "()I" } : Jvm.MethodName) ({ cls := "RotationPressModel", name := "length", desc := "()I" } : Jvm.MethodName)) ∈ g_tbl := List.mem_filter.mpr ⟨List.mem_append_right (k2_sels lw_privs) (List.mem_append_right _ (List.mem_append_right _ (List.mem_append_right _ (List.mem_append_right _ (List.mem_append_right _ (List.mem_append_right _ (List.mem_of_getElem? (l := tables_1_7) (i := 51) rfl))))))), rfl⟩
theorem L_length {C : gT} {b L : Nat} {xs : Nat → Int32} (hL : LW C b L xs) {q qx qm i N k n : Nat} {kk : Int32} {f : Nat → Int64} {wx wm : va_W} {s : ST} (hi : i + 6 ≤ L) (hs : stOk s) (hx : CX (g_K C) qx s N wx) (hm : CM (g_K C) qm s kk wm) (hk : k = 152 + (N - 16384) + i) (hn : n = 398815 + 2 * (N - 16384) + i) (nx : NXt C b qx qm q i)  : gAt C k n (ocell (g_K C) q f :: (wx ++ wm)) (lvH b qx qm q i) 481 [] := by
  obtain ⟨hC, hTs, hA, hX, hL9, hst⟩ := hL
  obtain ⟨⟨fs, hq⟩, hN1, hN2⟩ := CX_0 hx
  obtain ⟨fm, hqm⟩ := CM_0 hm
  obtain ⟨rm, N2, ⟨c1, c2⟩, ⟨r1, r2⟩, ⟨r3, r4⟩, hMx⟩ := Ox_length (g_l C) (g_D C) (g_K C) hx
  obtain ⟨rm2, ⟨e1, e2⟩, ⟨e3, e4⟩, hMm⟩ := Om_length (g_l C) (g_D C) (g_K C) hm
  refine g_aload_n 481 hC (j := 3) (hj := rfl) (hd := d_law_481) ?_
  refine g_perm (ws2 := wx ++ (ocell (g_K C) q f :: wm)) List.perm_middle.symm ?_
  refine a_callVi 482 hC hMx kx_length kw_ini kl_length km_length ks_length 0 rfl (by decide +kernel) ⟨(show _ + 1 ≤ 2048 by omega), (show 8 + (1 + 11) + _ ≤ 84000 by omega)⟩ 0 rfl rfl hq rfl (Nat.le_of_ble_eq_true rfl) (k + (N2 - N)) (n + 2 * (N2 - N)) (by omega) (by omega) (show _ ≤ 601024 by omega) (show _ ≤ 7293034 by omega) d_law_482 (fun x => ?_)
  obtain ⟨wx2, hx2⟩ := x
  refine g_perm (ws2 := ocell (g_K C) q f :: (wx2 ++ wm)) List.perm_middle ?_
  refine g_aload_n 485 hC (j := 2) (hj := rfl) (hd := d_law_485) ?_
  refine g_perm (ws2 := wm ++ (ocell (g_K C) q f :: wx2)) pm_1 ?_
  refine a_callVi 486 hC hMm mx_length kw_inim ml_length mm_length ms_length 0 rfl (by decide +kernel) ⟨(show _ + 1 ≤ 2048 by omega), (show 8 + (1 + 11) + _ ≤ 84000 by omega)⟩ 12 rfl rfl hqm rfl (Nat.le_of_ble_eq_true rfl) (k + (N2 - N)) (n + 2 * (N2 - N)) (by omega) (by omega) (show _ ≤ 601024 by omega) (show _ ≤ 7293034 by omega) d_law_486 (fun y => ?_)
  obtain ⟨wm2, hm2⟩ := y
  obtain ⟨fm2, hqm2⟩ := CM_0 hm2
  refine g_perm (ws2 := ocell (g_K C) q f :: (wx2 ++ wm2)) pm_2 ?_
  refine g_icmp_eq 489 hC 687 (by decide) d_law_489 (fun _ => ?_) (fun h9 => absurd rfl h9)
  refine g_lvp [0, 1, 2, 3, 4] rfl ?_
  exact g_wide (152 + (N2 - 16384) + (i + 6)) (398815 + 2 * (N2 - 16384) + (i + 6)) (by omega) (by omega) (nx s N2 wx2 wm2 f 0 hs hx2 hm2)
theorem kx_size : (Jvm.Cond.code ({ cls := "RotationPress", name := "size", desc := "()I" } : Jvm.MethodName) prog_1_method_10_code (1 : Nat) (Option.some Jvm.ClassFile.FieldType.int)) ∈ g_tbl := List.mem_filter.mpr ⟨List.mem_append_right (k2_sels lw_privs) (List.mem_append_right _ (List.mem_append_left _ (List.mem_of_getElem? (l := tables_1_2) (i := 207) rfl))), rfl⟩
theorem kl_size : (Jvm.Cond.methodLink "RotationPressLaw" (87 : Nat) ({ cls := "RotationPress", name := "size", desc := "()I" } : Jvm.MethodName)) ∈ g_tbl := List.mem_filter.mpr ⟨List.mem_append_right (k2_sels lw_privs) (List.mem_append_right _ (List.mem_append_left _ (List.mem_of_getElem? (l := tables_1_2) (i := 204) rfl))), rfl⟩
theorem km_size : (Jvm.Cond.instanceMethod ({ cls := "RotationPress", name := "size", desc := "()I" } : Jvm.MethodName)) ∈ g_tbl := List.mem_filter.mpr ⟨List.mem_append_right (k2_sels lw_privs) (List.mem_append_right _ (List.mem_append_left _ (List.mem_of_getElem? (l := tables_1_2) (i := 205) rfl))), rfl⟩
theorem ks_size : (Jvm.Cond.selects "RotationPress" ({ cls := "RotationPress", name := "size", desc := "()I" } : Jvm.MethodName) ({ cls := "RotationPress", name := "size", desc := "()I" } : Jvm.MethodName)) ∈ g_tbl := List.mem_filter.mpr ⟨List.mem_append_right (k2_sels lw_privs) (List.mem_append_right _ (List.mem_append_left _ (List.mem_of_getElem? (l := tables_1_2) (i := 206) rfl))), rfl⟩
theorem mx_size : (Jvm.Cond.code ({ cls := "RotationPressModel", name := "size", desc := "()I" } : Jvm.MethodName) prog_14_method_33_code (1 : Nat) (Option.some Jvm.ClassFile.FieldType.int)) ∈ g_tbl := List.mem_filter.mpr ⟨List.mem_append_right (k2_sels lw_privs) (List.mem_append_right _ (List.mem_append_right _ (List.mem_append_right _ (List.mem_append_right _ (List.mem_append_right _ (List.mem_append_right _ (List.mem_of_getElem? (l := tables_1_7) (i := 56) rfl))))))), rfl⟩
theorem ml_size : (Jvm.Cond.methodLink "RotationPressLaw" (90 : Nat) ({ cls := "RotationPressModel", name := "size", desc := "()I" } : Jvm.MethodName)) ∈ g_tbl := List.mem_filter.mpr ⟨List.mem_append_right (k2_sels lw_privs) (List.mem_append_right _ (List.mem_append_right _ (List.mem_append_right _ (List.mem_append_right _ (List.mem_append_right _ (List.mem_append_right _ (List.mem_of_getElem? (l := tables_1_7) (i := 53) rfl))))))), rfl⟩
theorem mm_size : (Jvm.Cond.instanceMethod ({ cls := "RotationPressModel", name := "size", desc := "()I" } : Jvm.MethodName)) ∈ g_tbl := List.mem_filter.mpr ⟨List.mem_append_right (k2_sels lw_privs) (List.mem_append_right _ (List.mem_append_right _ (List.mem_append_right _ (List.mem_append_right _ (List.mem_append_right _ (List.mem_append_right _ (List.mem_of_getElem? (l := tables_1_7) (i := 54) rfl))))))), rfl⟩
theorem ms_size : (Jvm.Cond.selects "RotationPressModel" ({ cls := "RotationPressModel", name := "size", desc := "()I" } : Jvm.MethodName) ({ cls := "RotationPressModel", name := "size", desc := "()I" } : Jvm.MethodName)) ∈ g_tbl := List.mem_filter.mpr ⟨List.mem_append_right (k2_sels lw_privs) (List.mem_append_right _ (List.mem_append_right _ (List.mem_append_right _ (List.mem_append_right _ (List.mem_append_right _ (List.mem_append_right _ (List.mem_of_getElem? (l := tables_1_7) (i := 55) rfl))))))), rfl⟩
theorem L_size {C : gT} {b L : Nat} {xs : Nat → Int32} (hL : LW C b L xs) {q qx qm i N k n : Nat} {kk : Int32} {f : Nat → Int64} {wx wm : va_W} {s : ST} (hi : i + 6 ≤ L) (hs : stOk s) (hx : CX (g_K C) qx s N wx) (hm : CM (g_K C) qm s kk wm) (hk : k = 152 + (N - 16384) + i) (hn : n = 398815 + 2 * (N - 16384) + i) (nx : NXt C b qx qm q i)  : gAt C k n (ocell (g_K C) q f :: (wx ++ wm)) (lvH b qx qm q i) 494 [] := by
  obtain ⟨hC, hTs, hA, hX, hL9, hst⟩ := hL
  obtain ⟨⟨fs, hq⟩, hN1, hN2⟩ := CX_0 hx
  obtain ⟨fm, hqm⟩ := CM_0 hm
  obtain ⟨rm, N2, ⟨c1, c2⟩, ⟨r1, r2⟩, ⟨r3, r4⟩, hMx⟩ := Ox_size (g_l C) (g_D C) (g_K C) hx
  obtain ⟨rm2, ⟨e1, e2⟩, ⟨e3, e4⟩, hMm⟩ := Om_size (g_l C) (g_D C) (g_K C) hm
  refine g_aload_n 494 hC (j := 3) (hj := rfl) (hd := d_law_494) ?_
  refine g_perm (ws2 := wx ++ (ocell (g_K C) q f :: wm)) List.perm_middle.symm ?_
  refine a_callVi 495 hC hMx kx_size kw_ini kl_size km_size ks_size 0 rfl (by decide +kernel) ⟨(show _ + 1 ≤ 2048 by omega), (show 8 + (1 + 11) + _ ≤ 84000 by omega)⟩ 0 rfl rfl hq rfl (Nat.le_of_ble_eq_true rfl) (k + (N2 - N)) (n + 2 * (N2 - N)) (by omega) (by omega) (show _ ≤ 601024 by omega) (show _ ≤ 7293034 by omega) d_law_495 (fun x => ?_)
  obtain ⟨wx2, hx2⟩ := x
  refine g_perm (ws2 := ocell (g_K C) q f :: (wx2 ++ wm)) List.perm_middle ?_
  refine g_aload_n 498 hC (j := 2) (hj := rfl) (hd := d_law_498) ?_
  refine g_perm (ws2 := wm ++ (ocell (g_K C) q f :: wx2)) pm_1 ?_
  refine a_callVi 499 hC hMm mx_size kw_inim ml_size mm_size ms_size 0 rfl (by decide +kernel) ⟨(show _ + 1 ≤ 2048 by omega), (show 8 + (1 + 11) + _ ≤ 84000 by omega)⟩ 12 rfl rfl hqm rfl (Nat.le_of_ble_eq_true rfl) (k + (N2 - N)) (n + 2 * (N2 - N)) (by omega) (by omega) (show _ ≤ 601024 by omega) (show _ ≤ 7293034 by omega) d_law_499 (fun y => ?_)
  obtain ⟨wm2, hm2⟩ := y
  obtain ⟨fm2, hqm2⟩ := CM_0 hm2
  refine g_perm (ws2 := ocell (g_K C) q f :: (wx2 ++ wm2)) pm_2 ?_
  refine g_icmp_eq 502 hC 687 (by decide) d_law_502 (fun _ => ?_) (fun h9 => absurd rfl h9)
  refine g_lvp [0, 1, 2, 3, 4] rfl ?_
  exact g_wide (152 + (N2 - 16384) + (i + 6)) (398815 + 2 * (N2 - 16384) + (i + 6)) (by omega) (by omega) (nx s N2 wx2 wm2 f 0 hs hx2 hm2)
theorem kt_out : (Jvm.Cond.static ({ cls := "RotationPressLaw", name := "out", desc := "(LRotationPress;I[J)I" } : Jvm.MethodName)) ∈ g_tbl := List.mem_filter.mpr ⟨List.mem_append_right (k2_sels lw_privs) (List.mem_append_right _ (List.mem_append_right _ (List.mem_append_right _ (List.mem_append_right _ (List.mem_append_left _ (List.mem_of_getElem? (l := tables_1_5) (i := 223) rfl)))))), rfl⟩
theorem kk_out : (Jvm.Cond.methodLink "RotationPressLaw" (91 : Nat) ({ cls := "RotationPressLaw", name := "out", desc := "(LRotationPress;I[J)I" } : Jvm.MethodName)) ∈ g_tbl := List.mem_filter.mpr ⟨List.mem_append_right (k2_sels lw_privs) (List.mem_append_right _ (List.mem_append_right _ (List.mem_append_right _ (List.mem_append_right _ (List.mem_append_left _ (List.mem_of_getElem? (l := tables_1_5) (i := 222) rfl)))))), rfl⟩
theorem mx_out : (Jvm.Cond.code ({ cls := "RotationPressModel", name := "out", desc := "(I)I" } : Jvm.MethodName) prog_14_method_34_code (2 : Nat) (Option.some Jvm.ClassFile.FieldType.int)) ∈ g_tbl := List.mem_filter.mpr ⟨List.mem_append_right (k2_sels lw_privs) (List.mem_append_right _ (List.mem_append_right _ (List.mem_append_right _ (List.mem_append_right _ (List.mem_append_right _ (List.mem_append_right _ (List.mem_of_getElem? (l := tables_1_7) (i := 60) rfl))))))), rfl⟩
theorem ml_out : (Jvm.Cond.methodLink "RotationPressLaw" (93 : Nat) ({ cls := "RotationPressModel", name := "out", desc := "(I)I" } : Jvm.MethodName)) ∈ g_tbl := List.mem_filter.mpr ⟨List.mem_append_right (k2_sels lw_privs) (List.mem_append_right _ (List.mem_append_right _ (List.mem_append_right _ (List.mem_append_right _ (List.mem_append_right _ (List.mem_append_right _ (List.mem_of_getElem? (l := tables_1_7) (i := 57) rfl))))))), rfl⟩
theorem mm_out : (Jvm.Cond.instanceMethod ({ cls := "RotationPressModel", name := "out", desc := "(I)I" } : Jvm.MethodName)) ∈ g_tbl := List.mem_filter.mpr ⟨List.mem_append_right (k2_sels lw_privs) (List.mem_append_right _ (List.mem_append_right _ (List.mem_append_right _ (List.mem_append_right _ (List.mem_append_right _ (List.mem_append_right _ (List.mem_of_getElem? (l := tables_1_7) (i := 58) rfl))))))), rfl⟩
theorem ms_out : (Jvm.Cond.selects "RotationPressModel" ({ cls := "RotationPressModel", name := "out", desc := "(I)I" } : Jvm.MethodName) ({ cls := "RotationPressModel", name := "out", desc := "(I)I" } : Jvm.MethodName)) ∈ g_tbl := List.mem_filter.mpr ⟨List.mem_append_right (k2_sels lw_privs) (List.mem_append_right _ (List.mem_append_right _ (List.mem_append_right _ (List.mem_append_right _ (List.mem_append_right _ (List.mem_append_right _ (List.mem_of_getElem? (l := tables_1_7) (i := 59) rfl))))))), rfl⟩
theorem L_out {C : gT} {b L : Nat} {xs : Nat → Int32} (hL : LW C b L xs) {q qx qm i N k n : Nat} {kk : Int32} {f : Nat → Int64} {wx wm : va_W} {s : ST} (hi : i + 6 ≤ L) (hs : stOk s) (hx : CX (g_K C) qx s N wx) (hm : CM (g_K C) qm s kk wm) (hk : k = 152 + (N - 16384) + i) (hn : n = 398815 + 2 * (N - 16384) + i) (nx : NXt C b qx qm q i) {i0 : Nat} (hi0 : i0 < s.M) (ep : xs (i + 1) = nI i0) : gAt C k n (ocell (g_K C) q f :: (wx ++ wm)) (lvH b qx qm q i) 507 [] := by
  obtain ⟨hC, hTs, hA, hX, hL9, hst⟩ := hL
  obtain ⟨⟨fs, hq⟩, hN1, hN2⟩ := CX_0 hx
  obtain ⟨fm, hqm⟩ := CM_0 hm
  have hO := Ox_out (g_l C) (g_D C) (g_K C) i0 hx hi0
  rw [← ep] at hO
  obtain ⟨rm, N2, ⟨c1, c2⟩, ⟨r1, r2⟩, ⟨r3, r4⟩, hMx⟩ := hO
  have hW := w_out q f (xs (i + 1)) { frames := 30, cells := N2 - N, slots := 2 * (N2 - N), locals := 1200 } hMx hq ⟨(show rm.frames + 1 ≤ 30 by omega), (show 8 + (2 + 11) + rm.locals ≤ 1200 by omega)⟩ r3 r4
  have hO2 := Om_out (g_l C) (g_D C) (g_K C) i0 hm hs hi0
  rw [← ep] at hO2
  obtain ⟨rm2, ⟨e1, e2⟩, ⟨e3, e4⟩, hMm⟩ := hO2
  refine g_aload_n 507 hC (j := 3) (hj := rfl) (hd := d_law_507) ?_
  refine g_aload_n 508 hC (j := 4) (hj := rfl) (hd := d_law_508) ?_
  refine g_iload 509 hC (j := 0) (hj := rfl) (hd := d_law_509) ?_
  refine g_iconst 511 hC (1 : Int32) (by decide) d_law_511 ?_
  refine g_iadd 512 hC d_law_512 ?_
  refine g_xald 513 hC hA hX (i + 1) (nI_add i 1) (by omega) (by omega) d_law_513 ?_
  refine g_aload_n 514 hC (j := 1) (hj := rfl) (hd := d_law_514) ?_
  refine a_callST 515 hC hTs hW kv_out kw_inil kk_out kt_out 3 rfl (by decide +kernel) ⟨(show 30 + 1 ≤ 2048 by omega), (show 8 + (_ + 11) + 1200 ≤ 84000 by omega)⟩ rfl (Nat.le_of_ble_eq_true rfl) (k + (N2 - N)) (n + 2 * (N2 - N)) (Nat.le_refl _) (Nat.le_refl _) (show _ ≤ 601024 by omega) (show _ ≤ 7293034 by omega) d_law_515 (fun x r hr => ?_)
  obtain ⟨wx2, hx2⟩ := x
  have hr : r = 0 := hr
  subst hr
  refine g_istore 518 hC _ (by decide) rfl d_law_518 ?_
  refine g_aload_n 520 hC (j := 3) (hj := rfl) (hd := d_law_520) ?_
  refine g_aload_n 521 hC (j := 5) (hj := rfl) (hd := d_law_521) ?_
  refine g_iload 522 hC (j := 1) (hj := rfl) (hd := d_law_522) ?_
  refine g_iconst 524 hC (1 : Int32) (by decide) d_law_524 ?_
  refine g_iadd 525 hC d_law_525 ?_
  refine g_xald 526 hC hA hX (i + 1) (nI_add i 1) (by omega) (by omega) d_law_526 ?_
  refine g_perm (ws2 := wm ++ (ocell (g_K C) q (vp_updL f 0 (nI (s.W i0)).toInt64) :: wx2)) pm_1 ?_
  refine a_callVi 527 hC hMm mx_out kw_inim ml_out mm_out ms_out 1 rfl (by decide +kernel) ⟨(show _ + 1 ≤ 2048 by omega), (show 8 + (2 + 11) + _ ≤ 84000 by omega)⟩ 12 rfl rfl hqm rfl (Nat.le_of_ble_eq_true rfl) (k + (N2 - N)) (n + 2 * (N2 - N)) (by omega) (by omega) (show _ ≤ 601024 by omega) (show _ ≤ 7293034 by omega) d_law_527 (fun y => ?_)
  obtain ⟨wm2, hm2⟩ := y
  obtain ⟨fm2, hqm2⟩ := CM_0 hm2
  refine g_istore 530 hC _ (by decide) rfl d_law_530 ?_
  refine g_aload_n 532 hC (j := 4) (hj := rfl) (hd := d_law_532) ?_
  obtain ⟨rm3, ⟨t1, t2⟩, ⟨t3, t4⟩, hMt⟩ := Om_thrown (g_l C) (g_D C) (g_K C) hm2
  refine a_callVi 533 hC hMt mx_thrown kw_inim ml_thrown mm_thrown ms_thrown 0 rfl (by decide +kernel) ⟨(show _ + 1 ≤ 2048 by omega), (show 8 + (1 + 11) + _ ≤ 84000 by omega)⟩ 12 rfl rfl hqm2 rfl (Nat.le_of_ble_eq_true rfl) (k + (N2 - N)) (n + 2 * (N2 - N)) (by omega) (by omega) (show _ ≤ 601024 by omega) (show _ ≤ 7293034 by omega) d_law_533 (fun y => ?_)
  obtain ⟨wm3, hm3⟩ := y
  refine g_iload 536 hC (j := 1) (hj := rfl) (hd := d_law_536) ?_
  refine g_perm (ws2 := ocell (g_K C) q (vp_updL f 0 (nI (s.W i0)).toInt64) :: (wx2 ++ wm3)) pm_2 ?_
  refine g_icmp_eq 538 hC 543 (by decide) d_law_538 (fun _ => ?_) (fun h9 => absurd rfl h9)
  refine g_iload 543 hC (j := 1) (hj := rfl) (hd := d_law_543) ?_
  refine g_if_ne 545 hC 560 (by decide) d_law_545 (fun h9 => absurd rfl h9) (fun _ => ?_)
  refine g_aload_n 548 hC (j := 3) (hj := rfl) (hd := d_law_548) ?_
  refine g_iconst 549 hC (0 : Int32) (by decide) d_law_549 ?_
  refine g_lald 550 hC 0 rfl rfl d_law_550 ?_
  refine g_iload 551 hC (j := 0) (hj := rfl) (hd := d_law_551) ?_
  refine g_i2l 553 hC d_law_553 ?_
  refine g_lcmp 554 hC (if_pos rfl) d_law_554 ?_
  refine g_if_eq 555 hC 560 (by decide) d_law_555 (fun _ => ?_) (fun h9 => absurd rfl h9)
  refine g_goto 560 hC 687 (by decide) d_law_560 ?_
  refine g_lvp [2, 3, 4, 5, 6] rfl ?_
  exact g_wide (152 + (N2 - 16384) + (i + 6)) (398815 + 2 * (N2 - 16384) + (i + 6)) (by omega) (by omega) (nx s N2 wx2 wm3 (vp_updL f 0 (nI (s.W i0)).toInt64) 0 hs hx2 hm3)
theorem L_outr {C : gT} {b L : Nat} {xs : Nat → Int32} (hL : LW C b L xs) {q qx qm i N k n : Nat} {kk : Int32} {f : Nat → Int64} {wx wm : va_W} {s : ST} (hi : i + 6 ≤ L) (hs : stOk s) (hx : CX (g_K C) qx s N wx) (hm : CM (g_K C) qm s kk wm) (hk : k = 152 + (N - 16384) + i) (hn : n = 398815 + 2 * (N - 16384) + i) (nx : NXt C b qx qm q i) (hp : xs (i + 1) < 0 ∨ ¬ xs (i + 1) < 0 ∧ nI s.M ≤ xs (i + 1)) : gAt C k n (ocell (g_K C) q f :: (wx ++ wm)) (lvH b qx qm q i) 507 [] := by
  obtain ⟨hC, hTs, hA, hX, hL9, hst⟩ := hL
  obtain ⟨⟨fs, hq⟩, hN1, hN2⟩ := CX_0 hx
  obtain ⟨fm, hqm⟩ := CM_0 hm
  have hT := Tx_out (g_l C) hst (g_D C) (g_K C) (xs (i + 1)) hx hp
  have hW := wt_out q f (xs (i + 1)) { frames := 30, cells := 1, slots := 6, locals := 1200 } hT hq ⟨(show 6 + 1 ≤ 30 by omega), (show 8 + (2 + 11) + 90 ≤ 1200 by omega)⟩ (Nat.le_refl _) (Nat.le_refl _)
  obtain ⟨rm2, ⟨e1, e2⟩, ⟨e3, e4⟩, hMm⟩ := Om_outr (g_l C) (g_D C) (g_K C) (xs (i + 1)) hm (not_lt_of hp)
  refine g_aload_n 507 hC (j := 3) (hj := rfl) (hd := d_law_507) ?_
  refine g_aload_n 508 hC (j := 4) (hj := rfl) (hd := d_law_508) ?_
  refine g_iload 509 hC (j := 0) (hj := rfl) (hd := d_law_509) ?_
  refine g_iconst 511 hC (1 : Int32) (by decide) d_law_511 ?_
  refine g_iadd 512 hC d_law_512 ?_
  refine g_xald 513 hC hA hX (i + 1) (nI_add i 1) (by omega) (by omega) d_law_513 ?_
  refine g_aload_n 514 hC (j := 1) (hj := rfl) (hd := d_law_514) ?_
  refine a_callST 515 hC hTs hW kv_out kw_inil kk_out kt_out 3 rfl (by decide +kernel) ⟨(show 30 + 1 ≤ 2048 by omega), (show 8 + (_ + 11) + 1200 ≤ 84000 by omega)⟩ rfl (Nat.le_of_ble_eq_true rfl) (k + 1) (n + 6) (Nat.le_refl _) (Nat.le_refl _) (show _ ≤ 601024 by omega) (show _ ≤ 7293034 by omega) d_law_515 (fun x r hr => ?_)
  have hr : r = 1 := hr
  subst hr
  refine g_istore 518 hC _ (by decide) rfl d_law_518 ?_
  refine g_aload_n 520 hC (j := 3) (hj := rfl) (hd := d_law_520) ?_
  refine g_aload_n 521 hC (j := 5) (hj := rfl) (hd := d_law_521) ?_
  refine g_iload 522 hC (j := 1) (hj := rfl) (hd := d_law_522) ?_
  refine g_iconst 524 hC (1 : Int32) (by decide) d_law_524 ?_
  refine g_iadd 525 hC d_law_525 ?_
  refine g_xald 526 hC hA hX (i + 1) (nI_add i 1) (by omega) (by omega) d_law_526 ?_
  refine g_perm (ws2 := wm ++ (ocell (g_K C) q f :: wx)) pm_1 ?_
  refine a_callVi 527 hC hMm mx_out kw_inim ml_out mm_out ms_out 1 rfl (by decide +kernel) ⟨(show _ + 1 ≤ 2048 by omega), (show 8 + (2 + 11) + _ ≤ 84000 by omega)⟩ 12 rfl rfl hqm rfl (Nat.le_of_ble_eq_true rfl) (k + 1) (n + 6) (by omega) (by omega) (show _ ≤ 601024 by omega) (show _ ≤ 7293034 by omega) d_law_527 (fun y => ?_)
  obtain ⟨wm2, hm2⟩ := y
  obtain ⟨fm2, hqm2⟩ := CM_0 hm2
  refine g_istore 530 hC _ (by decide) rfl d_law_530 ?_
  refine g_aload_n 532 hC (j := 4) (hj := rfl) (hd := d_law_532) ?_
  obtain ⟨rm3, ⟨t1, t2⟩, ⟨t3, t4⟩, hMt⟩ := Om_thrown (g_l C) (g_D C) (g_K C) hm2
  refine a_callVi 533 hC hMt mx_thrown kw_inim ml_thrown mm_thrown ms_thrown 0 rfl (by decide +kernel) ⟨(show _ + 1 ≤ 2048 by omega), (show 8 + (1 + 11) + _ ≤ 84000 by omega)⟩ 12 rfl rfl hqm2 rfl (Nat.le_of_ble_eq_true rfl) (k + 1) (n + 6) (by omega) (by omega) (show _ ≤ 601024 by omega) (show _ ≤ 7293034 by omega) d_law_533 (fun y => ?_)
  obtain ⟨wm3, hm3⟩ := y
  refine g_iload 536 hC (j := 1) (hj := rfl) (hd := d_law_536) ?_
  refine g_perm (ws2 := ocell (g_K C) q f :: (wx ++ wm3)) pm_2 ?_
  refine g_icmp_eq 538 hC 543 (by decide) d_law_538 (fun _ => ?_) (fun h9 => absurd rfl h9)
  refine g_iload 543 hC (j := 1) (hj := rfl) (hd := d_law_543) ?_
  refine g_if_ne 545 hC 560 (by decide) d_law_545 (fun _ => ?_) (fun h9 => absurd h9 (by decide))
  refine g_goto 560 hC 687 (by decide) d_law_560 ?_
  refine g_lvp [2, 3, 4, 5, 6] rfl ?_
  exact g_wide (152 + (N - 16384) + (i + 6)) (398815 + 2 * (N - 16384) + (i + 6)) (by omega) (by omega) (nx s N wx wm3 f 1 hs hx hm3)
theorem kt_piece : (Jvm.Cond.static ({ cls := "RotationPressLaw", name := "piece", desc := "(LRotationPress;II[J)I" } : Jvm.MethodName)) ∈ g_tbl := List.mem_filter.mpr ⟨List.mem_append_right (k2_sels lw_privs) (List.mem_append_right _ (List.mem_append_right _ (List.mem_append_right _ (List.mem_append_right _ (List.mem_append_left _ (List.mem_of_getElem? (l := tables_1_5) (i := 232) rfl)))))), rfl⟩
theorem kk_piece : (Jvm.Cond.methodLink "RotationPressLaw" (94 : Nat) ({ cls := "RotationPressLaw", name := "piece", desc := "(LRotationPress;II[J)I" } : Jvm.MethodName)) ∈ g_tbl := List.mem_filter.mpr ⟨List.mem_append_right (k2_sels lw_privs) (List.mem_append_right _ (List.mem_append_right _ (List.mem_append_right _ (List.mem_append_right _ (List.mem_append_left _ (List.mem_of_getElem? (l := tables_1_5) (i := 231) rfl)))))), rfl⟩
theorem mx_piece : (Jvm.Cond.code ({ cls := "RotationPressModel", name := "piece", desc := "(II)I" } : Jvm.MethodName) prog_14_method_29_code (3 : Nat) (Option.some Jvm.ClassFile.FieldType.int)) ∈ g_tbl := List.mem_filter.mpr ⟨List.mem_append_right (k2_sels lw_privs) (List.mem_append_right _ (List.mem_append_right _ (List.mem_append_right _ (List.mem_append_right _ (List.mem_append_right _ (List.mem_append_right _ (List.mem_of_getElem? (l := tables_1_7) (i := 40) rfl))))))), rfl⟩
theorem ml_piece : (Jvm.Cond.methodLink "RotationPressLaw" (96 : Nat) ({ cls := "RotationPressModel", name := "piece", desc := "(II)I" } : Jvm.MethodName)) ∈ g_tbl := List.mem_filter.mpr ⟨List.mem_append_right (k2_sels lw_privs) (List.mem_append_right _ (List.mem_append_right _ (List.mem_append_right _ (List.mem_append_right _ (List.mem_append_right _ (List.mem_append_right _ (List.mem_of_getElem? (l := tables_1_7) (i := 37) rfl))))))), rfl⟩
theorem mm_piece : (Jvm.Cond.instanceMethod ({ cls := "RotationPressModel", name := "piece", desc := "(II)I" } : Jvm.MethodName)) ∈ g_tbl := List.mem_filter.mpr ⟨List.mem_append_right (k2_sels lw_privs) (List.mem_append_right _ (List.mem_append_right _ (List.mem_append_right _ (List.mem_append_right _ (List.mem_append_right _ (List.mem_append_right _ (List.mem_of_getElem? (l := tables_1_7) (i := 38) rfl))))))), rfl⟩
theorem ms_piece : (Jvm.Cond.selects "RotationPressModel" ({ cls := "RotationPressModel", name := "piece", desc := "(II)I" } : Jvm.MethodName) ({ cls := "RotationPressModel", name := "piece", desc := "(II)I" } : Jvm.MethodName)) ∈ g_tbl := List.mem_filter.mpr ⟨List.mem_append_right (k2_sels lw_privs) (List.mem_append_right _ (List.mem_append_right _ (List.mem_append_right _ (List.mem_append_right _ (List.mem_append_right _ (List.mem_append_right _ (List.mem_of_getElem? (l := tables_1_7) (i := 39) rfl))))))), rfl⟩
theorem L_piece {C : gT} {b L : Nat} {xs : Nat → Int32} (hL : LW C b L xs) {q qx qm i N k n : Nat} {kk : Int32} {f : Nat → Int64} {wx wm : va_W} {s : ST} (hi : i + 6 ≤ L) (hs : stOk s) (hx : CX (g_K C) qx s N wx) (hm : CM (g_K C) qm s kk wm) (hk : k = 152 + (N - 16384) + i) (hn : n = 398815 + 2 * (N - 16384) + i) (nx : NXt C b qx qm q i) {i0 : Nat} (hi0 : i0 < 11) (ep : xs (i + 1) = nI i0) : gAt C k n (ocell (g_K C) q f :: (wx ++ wm)) (lvH b qx qm q i) 563 [] := by
  obtain ⟨hC, hTs, hA, hX, hL9, hst⟩ := hL
  obtain ⟨⟨fs, hq⟩, hN1, hN2⟩ := CX_0 hx
  obtain ⟨fm, hqm⟩ := CM_0 hm
  have hO := Ox_piece (g_l C) (g_D C) (g_K C) i0 (xs (i + 2)) hx hs hi0
  rw [← ep] at hO
  obtain ⟨rm, N2, ⟨c1, c2⟩, ⟨r1, r2⟩, ⟨r3, r4⟩, hMx⟩ := hO
  have hW := w_piece q f (xs (i + 1)) (xs (i + 2)) { frames := 30, cells := N2 - N, slots := 2 * (N2 - N), locals := 1200 } hMx hq ⟨(show rm.frames + 1 ≤ 30 by omega), (show 8 + (3 + 11) + rm.locals ≤ 1200 by omega)⟩ r3 r4
  have hO2 := Om_piece (g_l C) (g_D C) (g_K C) i0 (xs (i + 2)) hm hs hi0
  rw [← ep] at hO2
  obtain ⟨rm2, ⟨e1, e2⟩, ⟨e3, e4⟩, hMm⟩ := hO2
  refine g_aload_n 563 hC (j := 3) (hj := rfl) (hd := d_law_563) ?_
  refine g_aload_n 564 hC (j := 4) (hj := rfl) (hd := d_law_564) ?_
  refine g_iload 565 hC (j := 0) (hj := rfl) (hd := d_law_565) ?_
  refine g_iconst 567 hC (1 : Int32) (by decide) d_law_567 ?_
  refine g_iadd 568 hC d_law_568 ?_
  refine g_xald 569 hC hA hX (i + 1) (nI_add i 1) (by omega) (by omega) d_law_569 ?_
  refine g_aload_n 570 hC (j := 4) (hj := rfl) (hd := d_law_570) ?_
  refine g_iload 571 hC (j := 0) (hj := rfl) (hd := d_law_571) ?_
  refine g_iconst 573 hC (2 : Int32) (by decide) d_law_573 ?_
  refine g_iadd 574 hC d_law_574 ?_
  refine g_xald 575 hC hA hX (i + 2) (nI_add i 2) (by omega) (by omega) d_law_575 ?_
  refine g_aload_n 576 hC (j := 1) (hj := rfl) (hd := d_law_576) ?_
  refine a_callST 577 hC hTs hW kv_piece kw_inil kk_piece kt_piece 4 rfl (by decide +kernel) ⟨(show 30 + 1 ≤ 2048 by omega), (show 8 + (_ + 11) + 1200 ≤ 84000 by omega)⟩ rfl (Nat.le_of_ble_eq_true rfl) (k + (N2 - N)) (n + 2 * (N2 - N)) (Nat.le_refl _) (Nat.le_refl _) (show _ ≤ 601024 by omega) (show _ ≤ 7293034 by omega) d_law_577 (fun x r hr => ?_)
  obtain ⟨wx2, hx2⟩ := x
  have hr : r = 0 := hr
  subst hr
  refine g_istore 580 hC _ (by decide) rfl d_law_580 ?_
  refine g_aload_n 582 hC (j := 3) (hj := rfl) (hd := d_law_582) ?_
  refine g_aload_n 583 hC (j := 5) (hj := rfl) (hd := d_law_583) ?_
  refine g_iload 584 hC (j := 1) (hj := rfl) (hd := d_law_584) ?_
  refine g_iconst 586 hC (1 : Int32) (by decide) d_law_586 ?_
  refine g_iadd 587 hC d_law_587 ?_
  refine g_xald 588 hC hA hX (i + 1) (nI_add i 1) (by omega) (by omega) d_law_588 ?_
  refine g_aload_n 589 hC (j := 5) (hj := rfl) (hd := d_law_589) ?_
  refine g_iload 590 hC (j := 1) (hj := rfl) (hd := d_law_590) ?_
  refine g_iconst 592 hC (2 : Int32) (by decide) d_law_592 ?_
  refine g_iadd 593 hC d_law_593 ?_
  refine g_xald 594 hC hA hX (i + 2) (nI_add i 2) (by omega) (by omega) d_law_594 ?_
  refine g_perm (ws2 := wm ++ (ocell (g_K C) q (vp_updL f 0 (pcS s i0 (xs (i + 2))).toInt64) :: wx2)) pm_1 ?_
  refine a_callVi 595 hC hMm mx_piece kw_inim ml_piece mm_piece ms_piece 2 rfl (by decide +kernel) ⟨(show _ + 1 ≤ 2048 by omega), (show 8 + (3 + 11) + _ ≤ 84000 by omega)⟩ 12 rfl rfl hqm rfl (Nat.le_of_ble_eq_true rfl) (k + (N2 - N)) (n + 2 * (N2 - N)) (by omega) (by omega) (show _ ≤ 601024 by omega) (show _ ≤ 7293034 by omega) d_law_595 (fun y => ?_)
  obtain ⟨wm2, hm2⟩ := y
  obtain ⟨fm2, hqm2⟩ := CM_0 hm2
  refine g_istore 598 hC _ (by decide) rfl d_law_598 ?_
  refine g_aload_n 600 hC (j := 4) (hj := rfl) (hd := d_law_600) ?_
  obtain ⟨rm3, ⟨t1, t2⟩, ⟨t3, t4⟩, hMt⟩ := Om_thrown (g_l C) (g_D C) (g_K C) hm2
  refine a_callVi 601 hC hMt mx_thrown kw_inim ml_thrown mm_thrown ms_thrown 0 rfl (by decide +kernel) ⟨(show _ + 1 ≤ 2048 by omega), (show 8 + (1 + 11) + _ ≤ 84000 by omega)⟩ 12 rfl rfl hqm2 rfl (Nat.le_of_ble_eq_true rfl) (k + (N2 - N)) (n + 2 * (N2 - N)) (by omega) (by omega) (show _ ≤ 601024 by omega) (show _ ≤ 7293034 by omega) d_law_601 (fun y => ?_)
  obtain ⟨wm3, hm3⟩ := y
  refine g_iload 604 hC (j := 1) (hj := rfl) (hd := d_law_604) ?_
  refine g_perm (ws2 := ocell (g_K C) q (vp_updL f 0 (pcS s i0 (xs (i + 2))).toInt64) :: (wx2 ++ wm3)) pm_2 ?_
  refine g_icmp_eq 606 hC 611 (by decide) d_law_606 (fun _ => ?_) (fun h9 => absurd rfl h9)
  refine g_iload 611 hC (j := 1) (hj := rfl) (hd := d_law_611) ?_
  refine g_if_ne 613 hC 628 (by decide) d_law_613 (fun h9 => absurd rfl h9) (fun _ => ?_)
  refine g_aload_n 616 hC (j := 3) (hj := rfl) (hd := d_law_616) ?_
  refine g_iconst 617 hC (0 : Int32) (by decide) d_law_617 ?_
  refine g_lald 618 hC 0 rfl rfl d_law_618 ?_
  refine g_iload 619 hC (j := 0) (hj := rfl) (hd := d_law_619) ?_
  refine g_i2l 621 hC d_law_621 ?_
  refine g_lcmp 622 hC (if_pos rfl) d_law_622 ?_
  refine g_if_eq 623 hC 628 (by decide) d_law_623 (fun _ => ?_) (fun h9 => absurd rfl h9)
  refine g_goto 628 hC 687 (by decide) d_law_628 ?_
  refine g_lvp [2, 3, 4, 5, 6] rfl ?_
  exact g_wide (152 + (N2 - 16384) + (i + 6)) (398815 + 2 * (N2 - 16384) + (i + 6)) (by omega) (by omega) (nx s N2 wx2 wm3 (vp_updL f 0 (pcS s i0 (xs (i + 2))).toInt64) 0 hs hx2 hm3)
theorem L_piecer {C : gT} {b L : Nat} {xs : Nat → Int32} (hL : LW C b L xs) {q qx qm i N k n : Nat} {kk : Int32} {f : Nat → Int64} {wx wm : va_W} {s : ST} (hi : i + 6 ≤ L) (hs : stOk s) (hx : CX (g_K C) qx s N wx) (hm : CM (g_K C) qm s kk wm) (hk : k = 152 + (N - 16384) + i) (hn : n = 398815 + 2 * (N - 16384) + i) (nx : NXt C b qx qm q i) (hp : xs (i + 1) < 0 ∨ ¬ xs (i + 1) < 0 ∧ nI 11 ≤ xs (i + 1)) : gAt C k n (ocell (g_K C) q f :: (wx ++ wm)) (lvH b qx qm q i) 563 [] := by
  obtain ⟨hC, hTs, hA, hX, hL9, hst⟩ := hL
  obtain ⟨⟨fs, hq⟩, hN1, hN2⟩ := CX_0 hx
  obtain ⟨fm, hqm⟩ := CM_0 hm
  have hT := Tx_piece (g_l C) hst (g_D C) (g_K C) (xs (i + 1)) (xs (i + 2)) hx (not_lt_of hp)
  have hW := wt_piece q f (xs (i + 1)) (xs (i + 2)) { frames := 30, cells := 1, slots := 6, locals := 1200 } hT hq ⟨(show 6 + 1 ≤ 30 by omega), (show 8 + (3 + 11) + 90 ≤ 1200 by omega)⟩ (Nat.le_refl _) (Nat.le_refl _)
  obtain ⟨rm2, ⟨e1, e2⟩, ⟨e3, e4⟩, hMm⟩ := Om_piecer (g_l C) (g_D C) (g_K C) (xs (i + 1)) (xs (i + 2)) hm (gt_le (c := 10) hp (by omega))
  refine g_aload_n 563 hC (j := 3) (hj := rfl) (hd := d_law_563) ?_
  refine g_aload_n 564 hC (j := 4) (hj := rfl) (hd := d_law_564) ?_
  refine g_iload 565 hC (j := 0) (hj := rfl) (hd := d_law_565) ?_
  refine g_iconst 567 hC (1 : Int32) (by decide) d_law_567 ?_
  refine g_iadd 568 hC d_law_568 ?_
  refine g_xald 569 hC hA hX (i + 1) (nI_add i 1) (by omega) (by omega) d_law_569 ?_
  refine g_aload_n 570 hC (j := 4) (hj := rfl) (hd := d_law_570) ?_
  refine g_iload 571 hC (j := 0) (hj := rfl) (hd := d_law_571) ?_
  refine g_iconst 573 hC (2 : Int32) (by decide) d_law_573 ?_
  refine g_iadd 574 hC d_law_574 ?_
  refine g_xald 575 hC hA hX (i + 2) (nI_add i 2) (by omega) (by omega) d_law_575 ?_
  refine g_aload_n 576 hC (j := 1) (hj := rfl) (hd := d_law_576) ?_
  refine a_callST 577 hC hTs hW kv_piece kw_inil kk_piece kt_piece 4 rfl (by decide +kernel) ⟨(show 30 + 1 ≤ 2048 by omega), (show 8 + (_ + 11) + 1200 ≤ 84000 by omega)⟩ rfl (Nat.le_of_ble_eq_true rfl) (k + 1) (n + 6) (Nat.le_refl _) (Nat.le_refl _) (show _ ≤ 601024 by omega) (show _ ≤ 7293034 by omega) d_law_577 (fun x r hr => ?_)
  have hr : r = 1 := hr
  subst hr
  refine g_istore 580 hC _ (by decide) rfl d_law_580 ?_
  refine g_aload_n 582 hC (j := 3) (hj := rfl) (hd := d_law_582) ?_
  refine g_aload_n 583 hC (j := 5) (hj := rfl) (hd := d_law_583) ?_
  refine g_iload 584 hC (j := 1) (hj := rfl) (hd := d_law_584) ?_
  refine g_iconst 586 hC (1 : Int32) (by decide) d_law_586 ?_
  refine g_iadd 587 hC d_law_587 ?_
  refine g_xald 588 hC hA hX (i + 1) (nI_add i 1) (by omega) (by omega) d_law_588 ?_
  refine g_aload_n 589 hC (j := 5) (hj := rfl) (hd := d_law_589) ?_
  refine g_iload 590 hC (j := 1) (hj := rfl) (hd := d_law_590) ?_
  refine g_iconst 592 hC (2 : Int32) (by decide) d_law_592 ?_
  refine g_iadd 593 hC d_law_593 ?_
  refine g_xald 594 hC hA hX (i + 2) (nI_add i 2) (by omega) (by omega) d_law_594 ?_
  refine g_perm (ws2 := wm ++ (ocell (g_K C) q f :: wx)) pm_1 ?_
  refine a_callVi 595 hC hMm mx_piece kw_inim ml_piece mm_piece ms_piece 2 rfl (by decide +kernel) ⟨(show _ + 1 ≤ 2048 by omega), (show 8 + (3 + 11) + _ ≤ 84000 by omega)⟩ 12 rfl rfl hqm rfl (Nat.le_of_ble_eq_true rfl) (k + 1) (n + 6) (by omega) (by omega) (show _ ≤ 601024 by omega) (show _ ≤ 7293034 by omega) d_law_595 (fun y => ?_)
  obtain ⟨wm2, hm2⟩ := y
  obtain ⟨fm2, hqm2⟩ := CM_0 hm2
  refine g_istore 598 hC _ (by decide) rfl d_law_598 ?_
  refine g_aload_n 600 hC (j := 4) (hj := rfl) (hd := d_law_600) ?_
  obtain ⟨rm3, ⟨t1, t2⟩, ⟨t3, t4⟩, hMt⟩ := Om_thrown (g_l C) (g_D C) (g_K C) hm2
  refine a_callVi 601 hC hMt mx_thrown kw_inim ml_thrown mm_thrown ms_thrown 0 rfl (by decide +kernel) ⟨(show _ + 1 ≤ 2048 by omega), (show 8 + (1 + 11) + _ ≤ 84000 by omega)⟩ 12 rfl rfl hqm2 rfl (Nat.le_of_ble_eq_true rfl) (k + 1) (n + 6) (by omega) (by omega) (show _ ≤ 601024 by omega) (show _ ≤ 7293034 by omega) d_law_601 (fun y => ?_)
  obtain ⟨wm3, hm3⟩ := y
  refine g_iload 604 hC (j := 1) (hj := rfl) (hd := d_law_604) ?_
  refine g_perm (ws2 := ocell (g_K C) q f :: (wx ++ wm3)) pm_2 ?_
  refine g_icmp_eq 606 hC 611 (by decide) d_law_606 (fun _ => ?_) (fun h9 => absurd rfl h9)
  refine g_iload 611 hC (j := 1) (hj := rfl) (hd := d_law_611) ?_
  refine g_if_ne 613 hC 628 (by decide) d_law_613 (fun _ => ?_) (fun h9 => absurd h9 (by decide))
  refine g_goto 628 hC 687 (by decide) d_law_628 ?_
  refine g_lvp [2, 3, 4, 5, 6] rfl ?_
  exact g_wide (152 + (N - 16384) + (i + 6)) (398815 + 2 * (N - 16384) + (i + 6)) (by omega) (by omega) (nx s N wx wm3 f 1 hs hx hm3)
theorem kt_about : (Jvm.Cond.static ({ cls := "RotationPressLaw", name := "about", desc := "(LRotationPress;I[J)I" } : Jvm.MethodName)) ∈ g_tbl := List.mem_filter.mpr ⟨List.mem_append_right (k2_sels lw_privs) (List.mem_append_right _ (List.mem_append_right _ (List.mem_append_right _ (List.mem_append_right _ (List.mem_append_right _ (List.mem_append_left _ (List.mem_of_getElem? (l := tables_1_6) (i := 11) rfl))))))), rfl⟩
theorem kk_about : (Jvm.Cond.methodLink "RotationPressLaw" (97 : Nat) ({ cls := "RotationPressLaw", name := "about", desc := "(LRotationPress;I[J)I" } : Jvm.MethodName)) ∈ g_tbl := List.mem_filter.mpr ⟨List.mem_append_right (k2_sels lw_privs) (List.mem_append_right _ (List.mem_append_right _ (List.mem_append_right _ (List.mem_append_right _ (List.mem_append_right _ (List.mem_append_left _ (List.mem_of_getElem? (l := tables_1_6) (i := 10) rfl))))))), rfl⟩
theorem mx_about : (Jvm.Cond.code ({ cls := "RotationPressModel", name := "about", desc := "(I)I" } : Jvm.MethodName) prog_14_method_30_code (2 : Nat) (Option.some Jvm.ClassFile.FieldType.int)) ∈ g_tbl := List.mem_filter.mpr ⟨List.mem_append_right (k2_sels lw_privs) (List.mem_append_right _ (List.mem_append_right _ (List.mem_append_right _ (List.mem_append_right _ (List.mem_append_right _ (List.mem_append_right _ (List.mem_of_getElem? (l := tables_1_7) (i := 44) rfl))))))), rfl⟩
theorem ml_about : (Jvm.Cond.methodLink "RotationPressLaw" (99 : Nat) ({ cls := "RotationPressModel", name := "about", desc := "(I)I" } : Jvm.MethodName)) ∈ g_tbl := List.mem_filter.mpr ⟨List.mem_append_right (k2_sels lw_privs) (List.mem_append_right _ (List.mem_append_right _ (List.mem_append_right _ (List.mem_append_right _ (List.mem_append_right _ (List.mem_append_right _ (List.mem_of_getElem? (l := tables_1_7) (i := 41) rfl))))))), rfl⟩
theorem mm_about : (Jvm.Cond.instanceMethod ({ cls := "RotationPressModel", name := "about", desc := "(I)I" } : Jvm.MethodName)) ∈ g_tbl := List.mem_filter.mpr ⟨List.mem_append_right (k2_sels lw_privs) (List.mem_append_right _ (List.mem_append_right _ (List.mem_append_right _ (List.mem_append_right _ (List.mem_append_right _ (List.mem_append_right _ (List.mem_of_getElem? (l := tables_1_7) (i := 42) rfl))))))), rfl⟩
theorem ms_about : (Jvm.Cond.selects "RotationPressModel" ({ cls := "RotationPressModel", name := "about", desc := "(I)I" } : Jvm.MethodName) ({ cls := "RotationPressModel", name := "about", desc := "(I)I" } : Jvm.MethodName)) ∈ g_tbl := List.mem_filter.mpr ⟨List.mem_append_right (k2_sels lw_privs) (List.mem_append_right _ (List.mem_append_right _ (List.mem_append_right _ (List.mem_append_right _ (List.mem_append_right _ (List.mem_append_right _ (List.mem_of_getElem? (l := tables_1_7) (i := 43) rfl))))))), rfl⟩
theorem L_about {C : gT} {b L : Nat} {xs : Nat → Int32} (hL : LW C b L xs) {q qx qm i N k n : Nat} {kk : Int32} {f : Nat → Int64} {wx wm : va_W} {s : ST} (hi : i + 6 ≤ L) (hs : stOk s) (hx : CX (g_K C) qx s N wx) (hm : CM (g_K C) qm s kk wm) (hk : k = 152 + (N - 16384) + i) (hn : n = 398815 + 2 * (N - 16384) + i) (nx : NXt C b qx qm q i) {i0 : Nat} (hi0 : i0 < 8) (ep : xs (i + 1) = nI i0) : gAt C k n (ocell (g_K C) q f :: (wx ++ wm)) (lvH b qx qm q i) 631 [] := by
  obtain ⟨hC, hTs, hA, hX, hL9, hst⟩ := hL
  obtain ⟨⟨fs, hq⟩, hN1, hN2⟩ := CX_0 hx
  obtain ⟨fm, hqm⟩ := CM_0 hm
  have hO := Ox_about (g_l C) (g_D C) (g_K C) i0 hx hs hi0
  rw [← ep] at hO
  obtain ⟨rm, N2, ⟨c1, c2⟩, ⟨r1, r2⟩, ⟨r3, r4⟩, hMx⟩ := hO
  have hW := w_about q f (xs (i + 1)) { frames := 30, cells := N2 - N, slots := 2 * (N2 - N), locals := 1200 } hMx hq ⟨(show rm.frames + 1 ≤ 30 by omega), (show 8 + (2 + 11) + rm.locals ≤ 1200 by omega)⟩ r3 r4
  have hO2 := Om_about (g_l C) (g_D C) (g_K C) i0 hm hs hi0
  rw [← ep] at hO2
  obtain ⟨rm2, ⟨e1, e2⟩, ⟨e3, e4⟩, hMm⟩ := hO2
  refine g_aload_n 631 hC (j := 3) (hj := rfl) (hd := d_law_631) ?_
  refine g_aload_n 632 hC (j := 4) (hj := rfl) (hd := d_law_632) ?_
  refine g_iload 633 hC (j := 0) (hj := rfl) (hd := d_law_633) ?_
  refine g_iconst 635 hC (1 : Int32) (by decide) d_law_635 ?_
  refine g_iadd 636 hC d_law_636 ?_
  refine g_xald 637 hC hA hX (i + 1) (nI_add i 1) (by omega) (by omega) d_law_637 ?_
  refine g_aload_n 638 hC (j := 1) (hj := rfl) (hd := d_law_638) ?_
  refine a_callST 639 hC hTs hW kv_about kw_inil kk_about kt_about 3 rfl (by decide +kernel) ⟨(show 30 + 1 ≤ 2048 by omega), (show 8 + (_ + 11) + 1200 ≤ 84000 by omega)⟩ rfl (Nat.le_of_ble_eq_true rfl) (k + (N2 - N)) (n + 2 * (N2 - N)) (Nat.le_refl _) (Nat.le_refl _) (show _ ≤ 601024 by omega) (show _ ≤ 7293034 by omega) d_law_639 (fun x r hr => ?_)
  obtain ⟨wx2, hx2⟩ := x
  have hr : r = 0 := hr
  subst hr
  refine g_istore 642 hC _ (by decide) rfl d_law_642 ?_
  refine g_aload_n 644 hC (j := 3) (hj := rfl) (hd := d_law_644) ?_
  refine g_aload_n 645 hC (j := 5) (hj := rfl) (hd := d_law_645) ?_
  refine g_iload 646 hC (j := 1) (hj := rfl) (hd := d_law_646) ?_
  refine g_iconst 648 hC (1 : Int32) (by decide) d_law_648 ?_
  refine g_iadd 649 hC d_law_649 ?_
  refine g_xald 650 hC hA hX (i + 1) (nI_add i 1) (by omega) (by omega) d_law_650 ?_
  refine g_perm (ws2 := wm ++ (ocell (g_K C) q (vp_updL f 0 (abN s.A i0).toInt64) :: wx2)) pm_1 ?_
  refine a_callVi 651 hC hMm mx_about kw_inim ml_about mm_about ms_about 1 rfl (by decide +kernel) ⟨(show _ + 1 ≤ 2048 by omega), (show 8 + (2 + 11) + _ ≤ 84000 by omega)⟩ 12 rfl rfl hqm rfl (Nat.le_of_ble_eq_true rfl) (k + (N2 - N)) (n + 2 * (N2 - N)) (by omega) (by omega) (show _ ≤ 601024 by omega) (show _ ≤ 7293034 by omega) d_law_651 (fun y => ?_)
  obtain ⟨wm2, hm2⟩ := y
  obtain ⟨fm2, hqm2⟩ := CM_0 hm2
  refine g_istore 654 hC _ (by decide) rfl d_law_654 ?_
  refine g_aload_n 656 hC (j := 4) (hj := rfl) (hd := d_law_656) ?_
  obtain ⟨rm3, ⟨t1, t2⟩, ⟨t3, t4⟩, hMt⟩ := Om_thrown (g_l C) (g_D C) (g_K C) hm2
  refine a_callVi 657 hC hMt mx_thrown kw_inim ml_thrown mm_thrown ms_thrown 0 rfl (by decide +kernel) ⟨(show _ + 1 ≤ 2048 by omega), (show 8 + (1 + 11) + _ ≤ 84000 by omega)⟩ 12 rfl rfl hqm2 rfl (Nat.le_of_ble_eq_true rfl) (k + (N2 - N)) (n + 2 * (N2 - N)) (by omega) (by omega) (show _ ≤ 601024 by omega) (show _ ≤ 7293034 by omega) d_law_657 (fun y => ?_)
  obtain ⟨wm3, hm3⟩ := y
  refine g_iload 660 hC (j := 1) (hj := rfl) (hd := d_law_660) ?_
  refine g_perm (ws2 := ocell (g_K C) q (vp_updL f 0 (abN s.A i0).toInt64) :: (wx2 ++ wm3)) pm_2 ?_
  refine g_icmp_eq 662 hC 667 (by decide) d_law_662 (fun _ => ?_) (fun h9 => absurd rfl h9)
  refine g_iload 667 hC (j := 1) (hj := rfl) (hd := d_law_667) ?_
  refine g_if_ne 669 hC 684 (by decide) d_law_669 (fun h9 => absurd rfl h9) (fun _ => ?_)
  refine g_aload_n 672 hC (j := 3) (hj := rfl) (hd := d_law_672) ?_
  refine g_iconst 673 hC (0 : Int32) (by decide) d_law_673 ?_
  refine g_lald 674 hC 0 rfl rfl d_law_674 ?_
  refine g_iload 675 hC (j := 0) (hj := rfl) (hd := d_law_675) ?_
  refine g_i2l 677 hC d_law_677 ?_
  refine g_lcmp 678 hC (if_pos rfl) d_law_678 ?_
  refine g_if_eq 679 hC 684 (by decide) d_law_679 (fun _ => ?_) (fun h9 => absurd rfl h9)
  refine g_goto 684 hC 687 (by decide) d_law_684 ?_
  refine g_lvp [2, 3, 4, 5, 6] rfl ?_
  exact g_wide (152 + (N2 - 16384) + (i + 6)) (398815 + 2 * (N2 - 16384) + (i + 6)) (by omega) (by omega) (nx s N2 wx2 wm3 (vp_updL f 0 (abN s.A i0).toInt64) 0 hs hx2 hm3)
theorem L_aboutr {C : gT} {b L : Nat} {xs : Nat → Int32} (hL : LW C b L xs) {q qx qm i N k n : Nat} {kk : Int32} {f : Nat → Int64} {wx wm : va_W} {s : ST} (hi : i + 6 ≤ L) (hs : stOk s) (hx : CX (g_K C) qx s N wx) (hm : CM (g_K C) qm s kk wm) (hk : k = 152 + (N - 16384) + i) (hn : n = 398815 + 2 * (N - 16384) + i) (nx : NXt C b qx qm q i) (hp : xs (i + 1) < 0 ∨ ¬ xs (i + 1) < 0 ∧ nI 8 ≤ xs (i + 1)) : gAt C k n (ocell (g_K C) q f :: (wx ++ wm)) (lvH b qx qm q i) 631 [] := by
  obtain ⟨hC, hTs, hA, hX, hL9, hst⟩ := hL
  obtain ⟨⟨fs, hq⟩, hN1, hN2⟩ := CX_0 hx
  obtain ⟨fm, hqm⟩ := CM_0 hm
  have hT := Tx_about (g_l C) hst (g_D C) (g_K C) (xs (i + 1)) hx (not_lt_of hp)
  have hW := wt_about q f (xs (i + 1)) { frames := 30, cells := 1, slots := 6, locals := 1200 } hT hq ⟨(show 6 + 1 ≤ 30 by omega), (show 8 + (2 + 11) + 90 ≤ 1200 by omega)⟩ (Nat.le_refl _) (Nat.le_refl _)
  obtain ⟨rm2, ⟨e1, e2⟩, ⟨e3, e4⟩, hMm⟩ := Om_aboutr (g_l C) (g_D C) (g_K C) (xs (i + 1)) hm (gt_le (c := 7) hp (by omega))
  refine g_aload_n 631 hC (j := 3) (hj := rfl) (hd := d_law_631) ?_
  refine g_aload_n 632 hC (j := 4) (hj := rfl) (hd := d_law_632) ?_
  refine g_iload 633 hC (j := 0) (hj := rfl) (hd := d_law_633) ?_
  refine g_iconst 635 hC (1 : Int32) (by decide) d_law_635 ?_
  refine g_iadd 636 hC d_law_636 ?_
  refine g_xald 637 hC hA hX (i + 1) (nI_add i 1) (by omega) (by omega) d_law_637 ?_
  refine g_aload_n 638 hC (j := 1) (hj := rfl) (hd := d_law_638) ?_
  refine a_callST 639 hC hTs hW kv_about kw_inil kk_about kt_about 3 rfl (by decide +kernel) ⟨(show 30 + 1 ≤ 2048 by omega), (show 8 + (_ + 11) + 1200 ≤ 84000 by omega)⟩ rfl (Nat.le_of_ble_eq_true rfl) (k + 1) (n + 6) (Nat.le_refl _) (Nat.le_refl _) (show _ ≤ 601024 by omega) (show _ ≤ 7293034 by omega) d_law_639 (fun x r hr => ?_)
  have hr : r = 1 := hr
  subst hr
  refine g_istore 642 hC _ (by decide) rfl d_law_642 ?_
  refine g_aload_n 644 hC (j := 3) (hj := rfl) (hd := d_law_644) ?_
  refine g_aload_n 645 hC (j := 5) (hj := rfl) (hd := d_law_645) ?_
  refine g_iload 646 hC (j := 1) (hj := rfl) (hd := d_law_646) ?_
  refine g_iconst 648 hC (1 : Int32) (by decide) d_law_648 ?_
  refine g_iadd 649 hC d_law_649 ?_
  refine g_xald 650 hC hA hX (i + 1) (nI_add i 1) (by omega) (by omega) d_law_650 ?_
  refine g_perm (ws2 := wm ++ (ocell (g_K C) q f :: wx)) pm_1 ?_
  refine a_callVi 651 hC hMm mx_about kw_inim ml_about mm_about ms_about 1 rfl (by decide +kernel) ⟨(show _ + 1 ≤ 2048 by omega), (show 8 + (2 + 11) + _ ≤ 84000 by omega)⟩ 12 rfl rfl hqm rfl (Nat.le_of_ble_eq_true rfl) (k + 1) (n + 6) (by omega) (by omega) (show _ ≤ 601024 by omega) (show _ ≤ 7293034 by omega) d_law_651 (fun y => ?_)
  obtain ⟨wm2, hm2⟩ := y
  obtain ⟨fm2, hqm2⟩ := CM_0 hm2
  refine g_istore 654 hC _ (by decide) rfl d_law_654 ?_
  refine g_aload_n 656 hC (j := 4) (hj := rfl) (hd := d_law_656) ?_
  obtain ⟨rm3, ⟨t1, t2⟩, ⟨t3, t4⟩, hMt⟩ := Om_thrown (g_l C) (g_D C) (g_K C) hm2
  refine a_callVi 657 hC hMt mx_thrown kw_inim ml_thrown mm_thrown ms_thrown 0 rfl (by decide +kernel) ⟨(show _ + 1 ≤ 2048 by omega), (show 8 + (1 + 11) + _ ≤ 84000 by omega)⟩ 12 rfl rfl hqm2 rfl (Nat.le_of_ble_eq_true rfl) (k + 1) (n + 6) (by omega) (by omega) (show _ ≤ 601024 by omega) (show _ ≤ 7293034 by omega) d_law_657 (fun y => ?_)
  obtain ⟨wm3, hm3⟩ := y
  refine g_iload 660 hC (j := 1) (hj := rfl) (hd := d_law_660) ?_
  refine g_perm (ws2 := ocell (g_K C) q f :: (wx ++ wm3)) pm_2 ?_
  refine g_icmp_eq 662 hC 667 (by decide) d_law_662 (fun _ => ?_) (fun h9 => absurd rfl h9)
  refine g_iload 667 hC (j := 1) (hj := rfl) (hd := d_law_667) ?_
  refine g_if_ne 669 hC 684 (by decide) d_law_669 (fun _ => ?_) (fun h9 => absurd h9 (by decide))
  refine g_goto 684 hC 687 (by decide) d_law_684 ?_
  refine g_lvp [2, 3, 4, 5, 6] rfl ?_
  exact g_wide (152 + (N - 16384) + (i + 6)) (398815 + 2 * (N - 16384) + (i + 6)) (by omega) (by omega) (nx s N wx wm3 f 1 hs hx hm3)
