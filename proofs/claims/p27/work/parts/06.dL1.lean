theorem dL_passes_86 : decode cL_passes 86 = .ok (.invokestatic 100, 3) := by decide +kernel
theorem dL_passes_89 : decode cL_passes 89 = .ok (.iastore, 1) := by decide +kernel
theorem dL_passes_90 : decode cL_passes 90 = .ok (.aload 11, 2) := by decide +kernel
theorem dL_passes_92 : decode cL_passes 92 = .ok (.iload 13, 2) := by decide +kernel
theorem dL_passes_94 : decode cL_passes 94 = .ok (.aload_n 0, 1) := by decide +kernel
theorem dL_passes_95 : decode cL_passes 95 = .ok (.iload 13, 2) := by decide +kernel
theorem dL_passes_97 : decode cL_passes 97 = .ok (.iconst 2, 1) := by decide +kernel
theorem dL_passes_98 : decode cL_passes 98 = .ok (.invokestatic 100, 3) := by decide +kernel
theorem dL_passes_101 : decode cL_passes 101 = .ok (.iastore, 1) := by decide +kernel
theorem dL_passes_102 : decode cL_passes 102 = .ok (.iinc 13 1, 3) := by decide +kernel
theorem dL_passes_105 : decode cL_passes 105 = .ok (.goto (-51), 3) := by decide +kernel
theorem dL_passes_108 : decode cL_passes 108 = .ok (.iconst 0, 1) := by decide +kernel
theorem dL_passes_109 : decode cL_passes 109 = .ok (.istore 13, 2) := by decide +kernel
theorem dL_passes_111 : decode cL_passes 111 = .ok (.iload 13, 2) := by decide +kernel
theorem dL_passes_113 : decode cL_passes 113 = .ok (.aload_n 0, 1) := by decide +kernel
theorem dL_passes_114 : decode cL_passes 114 = .ok (.iconst 1, 1) := by decide +kernel
theorem dL_passes_115 : decode cL_passes 115 = .ok (.invokestatic 88, 3) := by decide +kernel
theorem dL_passes_118 : decode cL_passes 118 = .ok (.if_icmp .ge 22, 3) := by decide +kernel
theorem dL_passes_121 : decode cL_passes 121 = .ok (.aload 12, 2) := by decide +kernel
theorem dL_passes_123 : decode cL_passes 123 = .ok (.iload 13, 2) := by decide +kernel
theorem dL_passes_125 : decode cL_passes 125 = .ok (.aload_n 0, 1) := by decide +kernel
theorem dL_passes_126 : decode cL_passes 126 = .ok (.iload 13, 2) := by decide +kernel
theorem dL_passes_128 : decode cL_passes 128 = .ok (.bipush 7, 2) := by decide +kernel
theorem dL_passes_130 : decode cL_passes 130 = .ok (.invokestatic 95, 3) := by decide +kernel
theorem dL_passes_133 : decode cL_passes 133 = .ok (.iastore, 1) := by decide +kernel
theorem dL_passes_134 : decode cL_passes 134 = .ok (.iinc 13 1, 3) := by decide +kernel
theorem dL_passes_137 : decode cL_passes 137 = .ok (.goto (-26), 3) := by decide +kernel
theorem dL_passes_140 : decode cL_passes 140 = .ok (.aload_n 0, 1) := by decide +kernel
theorem dL_passes_141 : decode cL_passes 141 = .ok (.invokevirtual 109, 3) := by decide +kernel
theorem dL_passes_144 : decode cL_passes 144 = .ok (.lload 4, 2) := by decide +kernel
theorem dL_passes_146 : decode cL_passes 146 = .ok (.lcmp, 1) := by decide +kernel
theorem dL_passes_147 : decode cL_passes 147 = .ok (.ifCond .eq 5, 3) := by decide +kernel
theorem dL_passes_150 : decode cL_passes 150 = .ok (.iconst 0, 1) := by decide +kernel
theorem dL_passes_151 : decode cL_passes 151 = .ok (.ireturn, 1) := by decide +kernel
theorem dL_passes_152 : decode cL_passes 152 = .ok (.iload 8, 2) := by decide +kernel
theorem dL_passes_154 : decode cL_passes 154 = .ok (.iload_n 3, 1) := by decide +kernel
theorem dL_passes_155 : decode cL_passes 155 = .ok (.iadd, 1) := by decide +kernel
theorem dL_passes_156 : decode cL_passes 156 = .ok (.sipush 2000, 3) := by decide +kernel
theorem dL_passes_159 : decode cL_passes 159 = .ok (.if_icmp .le 31, 3) := by decide +kernel
theorem dL_passes_162 : decode cL_passes 162 = .ok (.aload_n 0, 1) := by decide +kernel
theorem dL_passes_163 : decode cL_passes 163 = .ok (.iload_n 1, 1) := by decide +kernel
theorem dL_passes_164 : decode cL_passes 164 = .ok (.iload_n 2, 1) := by decide +kernel
theorem dL_passes_165 : decode cL_passes 165 = .ok (.iload_n 3, 1) := by decide +kernel
theorem dL_passes_166 : decode cL_passes 166 = .ok (.invokestatic 116, 3) := by decide +kernel
theorem dL_passes_169 : decode cL_passes 169 = .ok (.ldc 20, 2) := by decide +kernel
theorem dL_passes_171 : decode cL_passes 171 = .ok (.if_icmp .ne 17, 3) := by decide +kernel
theorem dL_passes_174 : decode cL_passes 174 = .ok (.aload_n 0, 1) := by decide +kernel
theorem dL_passes_175 : decode cL_passes 175 = .ok (.invokevirtual 109, 3) := by decide +kernel
theorem dL_passes_178 : decode cL_passes 178 = .ok (.lload 4, 2) := by decide +kernel
theorem dL_passes_180 : decode cL_passes 180 = .ok (.lcmp, 1) := by decide +kernel
theorem dL_passes_181 : decode cL_passes 181 = .ok (.ifCond .ne 7, 3) := by decide +kernel
theorem dL_passes_184 : decode cL_passes 184 = .ok (.iconst 1, 1) := by decide +kernel
theorem dL_passes_185 : decode cL_passes 185 = .ok (.goto 4, 3) := by decide +kernel
theorem dL_passes_188 : decode cL_passes 188 = .ok (.iconst 0, 1) := by decide +kernel
theorem dL_passes_189 : decode cL_passes 189 = .ok (.ireturn, 1) := by decide +kernel
theorem dL_passes_190 : decode cL_passes 190 = .ok (.aload_n 0, 1) := by decide +kernel
theorem dL_passes_191 : decode cL_passes 191 = .ok (.iload_n 1, 1) := by decide +kernel
theorem dL_passes_192 : decode cL_passes 192 = .ok (.iload_n 2, 1) := by decide +kernel
theorem dL_passes_193 : decode cL_passes 193 = .ok (.iload_n 3, 1) := by decide +kernel
theorem dL_passes_194 : decode cL_passes 194 = .ok (.invokestatic 116, 3) := by decide +kernel
theorem dL_passes_197 : decode cL_passes 197 = .ok (.iload 6, 2) := by decide +kernel
theorem dL_passes_199 : decode cL_passes 199 = .ok (.if_icmp .ne 29, 3) := by decide +kernel
theorem dL_passes_202 : decode cL_passes 202 = .ok (.aload_n 0, 1) := by decide +kernel
theorem dL_passes_203 : decode cL_passes 203 = .ok (.bipush 6, 2) := by decide +kernel
theorem dL_passes_205 : decode cL_passes 205 = .ok (.invokestatic 88, 3) := by decide +kernel
theorem dL_passes_208 : decode cL_passes 208 = .ok (.iload 7, 2) := by decide +kernel
theorem dL_passes_210 : decode cL_passes 210 = .ok (.iload 6, 2) := by decide +kernel
theorem dL_passes_212 : decode cL_passes 212 = .ok (.iadd, 1) := by decide +kernel
theorem dL_passes_213 : decode cL_passes 213 = .ok (.if_icmp .ne 15, 3) := by decide +kernel
theorem dL_passes_216 : decode cL_passes 216 = .ok (.aload_n 0, 1) := by decide +kernel
theorem dL_passes_217 : decode cL_passes 217 = .ok (.iconst 0, 1) := by decide +kernel
theorem dL_passes_218 : decode cL_passes 218 = .ok (.invokestatic 88, 3) := by decide +kernel
theorem dL_passes_221 : decode cL_passes 221 = .ok (.iload 8, 2) := by decide +kernel
theorem dL_passes_223 : decode cL_passes 223 = .ok (.iload_n 3, 1) := by decide +kernel
theorem dL_passes_224 : decode cL_passes 224 = .ok (.iadd, 1) := by decide +kernel
theorem dL_passes_225 : decode cL_passes 225 = .ok (.if_icmp .eq 5, 3) := by decide +kernel
theorem dL_passes_228 : decode cL_passes 228 = .ok (.iconst 0, 1) := by decide +kernel
theorem dL_passes_229 : decode cL_passes 229 = .ok (.ireturn, 1) := by decide +kernel
theorem dL_passes_230 : decode cL_passes 230 = .ok (.iconst 0, 1) := by decide +kernel
theorem dL_passes_231 : decode cL_passes 231 = .ok (.istore 13, 2) := by decide +kernel
theorem dL_passes_233 : decode cL_passes 233 = .ok (.iload 13, 2) := by decide +kernel
theorem dL_passes_235 : decode cL_passes 235 = .ok (.aload_n 0, 1) := by decide +kernel
theorem dL_passes_236 : decode cL_passes 236 = .ok (.iconst 2, 1) := by decide +kernel
theorem dL_passes_237 : decode cL_passes 237 = .ok (.invokestatic 88, 3) := by decide +kernel
theorem dL_passes_240 : decode cL_passes 240 = .ok (.if_icmp .ge 110, 3) := by decide +kernel
theorem dL_passes_243 : decode cL_passes 243 = .ok (.aload_n 0, 1) := by decide +kernel
theorem dL_passes_244 : decode cL_passes 244 = .ok (.iload 13, 2) := by decide +kernel
theorem dL_passes_246 : decode cL_passes 246 = .ok (.bipush 7, 2) := by decide +kernel
theorem dL_passes_248 : decode cL_passes 248 = .ok (.invokestatic 100, 3) := by decide +kernel
theorem dL_passes_251 : decode cL_passes 251 = .ok (.aload 9, 2) := by decide +kernel
theorem dL_passes_253 : decode cL_passes 253 = .ok (.iload 13, 2) := by decide +kernel
theorem dL_passes_255 : decode cL_passes 255 = .ok (.iaload, 1) := by decide +kernel
theorem dL_passes_256 : decode cL_passes 256 = .ok (.isub, 1) := by decide +kernel
theorem dL_passes_257 : decode cL_passes 257 = .ok (.istore 14, 2) := by decide +kernel
theorem dL_passes_259 : decode cL_passes 259 = .ok (.iload 14, 2) := by decide +kernel
theorem dL_passes_261 : decode cL_passes 261 = .ok (.ifCond .lt 81, 3) := by decide +kernel
theorem dL_passes_264 : decode cL_passes 264 = .ok (.iload 14, 2) := by decide +kernel
theorem dL_passes_266 : decode cL_passes 266 = .ok (.iload_n 3, 1) := by decide +kernel
theorem dL_passes_267 : decode cL_passes 267 = .ok (.aload_n 0, 1) := by decide +kernel
theorem dL_passes_268 : decode cL_passes 268 = .ok (.iload 13, 2) := by decide +kernel
theorem dL_passes_270 : decode cL_passes 270 = .ok (.iconst 0, 1) := by decide +kernel
theorem dL_passes_271 : decode cL_passes 271 = .ok (.invokestatic 100, 3) := by decide +kernel
theorem dL_passes_274 : decode cL_passes 274 = .ok (.imul, 1) := by decide +kernel
theorem dL_passes_275 : decode cL_passes 275 = .ok (.if_icmp .gt 67, 3) := by decide +kernel
theorem dL_passes_278 : decode cL_passes 278 = .ok (.aload_n 0, 1) := by decide +kernel
theorem dL_passes_279 : decode cL_passes 279 = .ok (.iload 13, 2) := by decide +kernel
theorem dL_passes_281 : decode cL_passes 281 = .ok (.bipush 6, 2) := by decide +kernel
theorem dL_passes_283 : decode cL_passes 283 = .ok (.invokestatic 100, 3) := by decide +kernel
theorem dL_passes_286 : decode cL_passes 286 = .ok (.aload 10, 2) := by decide +kernel
theorem dL_passes_288 : decode cL_passes 288 = .ok (.iload 13, 2) := by decide +kernel
theorem dL_passes_290 : decode cL_passes 290 = .ok (.iaload, 1) := by decide +kernel
theorem dL_passes_291 : decode cL_passes 291 = .ok (.if_icmp .lt 51, 3) := by decide +kernel
theorem dL_passes_294 : decode cL_passes 294 = .ok (.aload_n 0, 1) := by decide +kernel
theorem dL_passes_295 : decode cL_passes 295 = .ok (.iload 13, 2) := by decide +kernel
theorem dL_passes_297 : decode cL_passes 297 = .ok (.bipush 6, 2) := by decide +kernel
theorem dL_passes_299 : decode cL_passes 299 = .ok (.invokestatic 100, 3) := by decide +kernel
theorem dL_passes_302 : decode cL_passes 302 = .ok (.aload 10, 2) := by decide +kernel
theorem dL_passes_304 : decode cL_passes 304 = .ok (.iload 13, 2) := by decide +kernel
theorem dL_passes_306 : decode cL_passes 306 = .ok (.iaload, 1) := by decide +kernel
theorem dL_passes_307 : decode cL_passes 307 = .ok (.iload_n 3, 1) := by decide +kernel
theorem dL_passes_308 : decode cL_passes 308 = .ok (.iadd, 1) := by decide +kernel
theorem dL_passes_309 : decode cL_passes 309 = .ok (.if_icmp .gt 33, 3) := by decide +kernel
theorem dL_passes_312 : decode cL_passes 312 = .ok (.aload_n 0, 1) := by decide +kernel
theorem dL_passes_313 : decode cL_passes 313 = .ok (.iload 13, 2) := by decide +kernel
theorem dL_passes_315 : decode cL_passes 315 = .ok (.iconst 3, 1) := by decide +kernel
theorem dL_passes_316 : decode cL_passes 316 = .ok (.invokestatic 100, 3) := by decide +kernel
theorem dL_passes_319 : decode cL_passes 319 = .ok (.ifCond .ne 25, 3) := by decide +kernel
theorem dL_passes_322 : decode cL_passes 322 = .ok (.iload 14, 2) := by decide +kernel
theorem dL_passes_324 : decode cL_passes 324 = .ok (.ifCond .gt 18, 3) := by decide +kernel
theorem dL_passes_327 : decode cL_passes 327 = .ok (.aload_n 0, 1) := by decide +kernel
theorem dL_passes_328 : decode cL_passes 328 = .ok (.iload 13, 2) := by decide +kernel
theorem dL_passes_330 : decode cL_passes 330 = .ok (.iconst 2, 1) := by decide +kernel
theorem dL_passes_331 : decode cL_passes 331 = .ok (.invokestatic 100, 3) := by decide +kernel
theorem dL_passes_334 : decode cL_passes 334 = .ok (.aload 11, 2) := by decide +kernel
theorem dL_passes_336 : decode cL_passes 336 = .ok (.iload 13, 2) := by decide +kernel
theorem dL_passes_338 : decode cL_passes 338 = .ok (.iaload, 1) := by decide +kernel
theorem dL_passes_339 : decode cL_passes 339 = .ok (.if_icmp .eq 5, 3) := by decide +kernel
theorem dL_passes_342 : decode cL_passes 342 = .ok (.iconst 0, 1) := by decide +kernel
theorem dL_passes_343 : decode cL_passes 343 = .ok (.ireturn, 1) := by decide +kernel
theorem dL_passes_344 : decode cL_passes 344 = .ok (.iinc 13 1, 3) := by decide +kernel
theorem dL_passes_347 : decode cL_passes 347 = .ok (.goto (-114), 3) := by decide +kernel
theorem dL_passes_350 : decode cL_passes 350 = .ok (.iconst 0, 1) := by decide +kernel
theorem dL_passes_351 : decode cL_passes 351 = .ok (.istore 13, 2) := by decide +kernel
theorem dL_passes_353 : decode cL_passes 353 = .ok (.iload 13, 2) := by decide +kernel
theorem dL_passes_355 : decode cL_passes 355 = .ok (.aload_n 0, 1) := by decide +kernel
theorem dL_passes_356 : decode cL_passes 356 = .ok (.iconst 1, 1) := by decide +kernel
theorem dL_passes_357 : decode cL_passes 357 = .ok (.invokestatic 88, 3) := by decide +kernel
theorem dL_passes_360 : decode cL_passes 360 = .ok (.if_icmp .ge 72, 3) := by decide +kernel
theorem dL_passes_363 : decode cL_passes 363 = .ok (.aload_n 0, 1) := by decide +kernel
theorem dL_passes_364 : decode cL_passes 364 = .ok (.iload 13, 2) := by decide +kernel
theorem dL_passes_366 : decode cL_passes 366 = .ok (.bipush 7, 2) := by decide +kernel
theorem dL_passes_368 : decode cL_passes 368 = .ok (.invokestatic 95, 3) := by decide +kernel
theorem dL_passes_371 : decode cL_passes 371 = .ok (.aload 12, 2) := by decide +kernel
theorem dL_passes_373 : decode cL_passes 373 = .ok (.iload 13, 2) := by decide +kernel
theorem dL_passes_375 : decode cL_passes 375 = .ok (.iaload, 1) := by decide +kernel
theorem dL_passes_376 : decode cL_passes 376 = .ok (.isub, 1) := by decide +kernel
theorem dL_passes_377 : decode cL_passes 377 = .ok (.istore 14, 2) := by decide +kernel
theorem dL_passes_379 : decode cL_passes 379 = .ok (.iload 14, 2) := by decide +kernel
theorem dL_passes_381 : decode cL_passes 381 = .ok (.ifCond .lt 43, 3) := by decide +kernel
theorem dL_passes_384 : decode cL_passes 384 = .ok (.iload 14, 2) := by decide +kernel
theorem dL_passes_386 : decode cL_passes 386 = .ok (.ifCond .le 16, 3) := by decide +kernel
theorem dL_passes_389 : decode cL_passes 389 = .ok (.aload_n 0, 1) := by decide +kernel
theorem dL_passes_390 : decode cL_passes 390 = .ok (.iload 13, 2) := by decide +kernel
theorem dL_passes_392 : decode cL_passes 392 = .ok (.bipush 8, 2) := by decide +kernel
theorem dL_passes_394 : decode cL_passes 394 = .ok (.invokestatic 95, 3) := by decide +kernel
theorem dL_passes_397 : decode cL_passes 397 = .ok (.iload 8, 2) := by decide +kernel
theorem dL_passes_399 : decode cL_passes 399 = .ok (.if_icmp .lt 25, 3) := by decide +kernel
theorem dL_passes_402 : decode cL_passes 402 = .ok (.iload 14, 2) := by decide +kernel
theorem dL_passes_404 : decode cL_passes 404 = .ok (.ifCond .ne 22, 3) := by decide +kernel
theorem dL_passes_407 : decode cL_passes 407 = .ok (.iload_n 3, 1) := by decide +kernel
theorem dL_passes_408 : decode cL_passes 408 = .ok (.ifCond .ne 18, 3) := by decide +kernel
theorem dL_passes_411 : decode cL_passes 411 = .ok (.aload_n 0, 1) := by decide +kernel
theorem dL_passes_412 : decode cL_passes 412 = .ok (.iload 13, 2) := by decide +kernel
theorem dL_passes_414 : decode cL_passes 414 = .ok (.bipush 8, 2) := by decide +kernel
theorem dL_passes_416 : decode cL_passes 416 = .ok (.invokestatic 95, 3) := by decide +kernel
theorem dL_passes_419 : decode cL_passes 419 = .ok (.iload 8, 2) := by decide +kernel
theorem dL_passes_421 : decode cL_passes 421 = .ok (.if_icmp .lt 5, 3) := by decide +kernel
theorem dL_passes_424 : decode cL_passes 424 = .ok (.iconst 0, 1) := by decide +kernel
theorem dL_passes_425 : decode cL_passes 425 = .ok (.ireturn, 1) := by decide +kernel
theorem dL_passes_426 : decode cL_passes 426 = .ok (.iinc 13 1, 3) := by decide +kernel
theorem dL_passes_429 : decode cL_passes 429 = .ok (.goto (-76), 3) := by decide +kernel
theorem dL_passes_432 : decode cL_passes 432 = .ok (.aload_n 0, 1) := by decide +kernel
theorem dL_passes_433 : decode cL_passes 433 = .ok (.invokestatic 118, 3) := by decide +kernel
theorem dL_passes_436 : decode cL_passes 436 = .ok (.ifCond .lt 24, 3) := by decide +kernel
theorem dL_passes_439 : decode cL_passes 439 = .ok (.aload_n 0, 1) := by decide +kernel
theorem dL_passes_440 : decode cL_passes 440 = .ok (.iconst 0, 1) := by decide +kernel
theorem dL_passes_441 : decode cL_passes 441 = .ok (.invokestatic 88, 3) := by decide +kernel
theorem dL_passes_444 : decode cL_passes 444 = .ok (.iload 8, 2) := by decide +kernel
theorem dL_passes_446 : decode cL_passes 446 = .ok (.if_icmp .ne 14, 3) := by decide +kernel
theorem dL_passes_449 : decode cL_passes 449 = .ok (.aload_n 0, 1) := by decide +kernel
theorem dL_passes_450 : decode cL_passes 450 = .ok (.bipush 6, 2) := by decide +kernel
theorem dL_passes_452 : decode cL_passes 452 = .ok (.invokestatic 88, 3) := by decide +kernel
theorem dL_passes_455 : decode cL_passes 455 = .ok (.iload 7, 2) := by decide +kernel
theorem dL_passes_457 : decode cL_passes 457 = .ok (.if_icmp .eq 5, 3) := by decide +kernel
theorem dL_passes_460 : decode cL_passes 460 = .ok (.iconst 0, 1) := by decide +kernel
theorem dL_passes_461 : decode cL_passes 461 = .ok (.ireturn, 1) := by decide +kernel
theorem dL_passes_462 : decode cL_passes 462 = .ok (.aload_n 0, 1) := by decide +kernel
theorem dL_passes_463 : decode cL_passes 463 = .ok (.iload_n 1, 1) := by decide +kernel
theorem dL_passes_464 : decode cL_passes 464 = .ok (.iload_n 2, 1) := by decide +kernel
theorem dL_passes_465 : decode cL_passes 465 = .ok (.iload_n 3, 1) := by decide +kernel
theorem dL_passes_466 : decode cL_passes 466 = .ok (.invokestatic 116, 3) := by decide +kernel
theorem dL_passes_469 : decode cL_passes 469 = .ok (.iload 6, 2) := by decide +kernel
theorem dL_passes_471 : decode cL_passes 471 = .ok (.if_icmp .ne 7, 3) := by decide +kernel
theorem dL_passes_474 : decode cL_passes 474 = .ok (.iconst 1, 1) := by decide +kernel
theorem dL_passes_475 : decode cL_passes 475 = .ok (.goto 4, 3) := by decide +kernel
theorem dL_passes_478 : decode cL_passes 478 = .ok (.iconst 0, 1) := by decide +kernel
theorem dL_passes_479 : decode cL_passes 479 = .ok (.ireturn, 1) := by decide +kernel
theorem dL_thoughts_0 : decode cL_thoughts 0 = .ok (.aload_n 0, 1) := by decide +kernel
theorem dL_thoughts_1 : decode cL_thoughts 1 = .ok (.invokevirtual 109, 3) := by decide +kernel
theorem dL_thoughts_4 : decode cL_thoughts 4 = .ok (.lstore_n 2, 1) := by decide +kernel
theorem dL_thoughts_5 : decode cL_thoughts 5 = .ok (.iload_n 1, 1) := by decide +kernel
theorem dL_thoughts_6 : decode cL_thoughts 6 = .ok (.bipush 101, 2) := by decide +kernel
theorem dL_thoughts_8 : decode cL_thoughts 8 = .ok (.invokestatic 121, 3) := by decide +kernel
theorem dL_thoughts_11 : decode cL_thoughts 11 = .ok (.bipush 50, 2) := by decide +kernel
theorem dL_thoughts_13 : decode cL_thoughts 13 = .ok (.isub, 1) := by decide +kernel
theorem dL_thoughts_14 : decode cL_thoughts 14 = .ok (.istore 4, 2) := by decide +kernel
theorem dL_thoughts_16 : decode cL_thoughts 16 = .ok (.iload_n 1, 1) := by decide +kernel
theorem dL_thoughts_17 : decode cL_thoughts 17 = .ok (.bipush 6, 2) := by decide +kernel
theorem dL_thoughts_19 : decode cL_thoughts 19 = .ok (.ishr, 1) := by decide +kernel
theorem dL_thoughts_20 : decode cL_thoughts 20 = .ok (.bipush 25, 2) := by decide +kernel
theorem dL_thoughts_22 : decode cL_thoughts 22 = .ok (.invokestatic 121, 3) := by decide +kernel
theorem dL_thoughts_25 : decode cL_thoughts 25 = .ok (.istore 5, 2) := by decide +kernel
theorem dL_thoughts_27 : decode cL_thoughts 27 = .ok (.iload_n 1, 1) := by decide +kernel
theorem dL_thoughts_28 : decode cL_thoughts 28 = .ok (.bipush 10, 2) := by decide +kernel
theorem dL_thoughts_30 : decode cL_thoughts 30 = .ok (.ishr, 1) := by decide +kernel
theorem dL_thoughts_31 : decode cL_thoughts 31 = .ok (.bipush 30, 2) := by decide +kernel
theorem dL_thoughts_33 : decode cL_thoughts 33 = .ok (.invokestatic 121, 3) := by decide +kernel
theorem dL_thoughts_36 : decode cL_thoughts 36 = .ok (.istore 6, 2) := by decide +kernel
theorem dL_thoughts_38 : decode cL_thoughts 38 = .ok (.aload_n 0, 1) := by decide +kernel
theorem dL_thoughts_39 : decode cL_thoughts 39 = .ok (.iconst 2, 1) := by decide +kernel
theorem dL_thoughts_40 : decode cL_thoughts 40 = .ok (.invokestatic 88, 3) := by decide +kernel
theorem dL_thoughts_43 : decode cL_thoughts 43 = .ok (.istore 7, 2) := by decide +kernel
theorem dL_thoughts_45 : decode cL_thoughts 45 = .ok (.aload_n 0, 1) := by decide +kernel
theorem dL_thoughts_46 : decode cL_thoughts 46 = .ok (.iload 4, 2) := by decide +kernel
theorem dL_thoughts_48 : decode cL_thoughts 48 = .ok (.iload 5, 2) := by decide +kernel
theorem dL_thoughts_50 : decode cL_thoughts 50 = .ok (.iload 6, 2) := by decide +kernel
theorem dL_thoughts_52 : decode cL_thoughts 52 = .ok (.invokestatic 113, 3) := by decide +kernel
theorem dL_thoughts_55 : decode cL_thoughts 55 = .ok (.istore 8, 2) := by decide +kernel
theorem dL_thoughts_57 : decode cL_thoughts 57 = .ok (.aload_n 0, 1) := by decide +kernel
theorem dL_thoughts_58 : decode cL_thoughts 58 = .ok (.iload 4, 2) := by decide +kernel
theorem dL_thoughts_60 : decode cL_thoughts 60 = .ok (.iload 5, 2) := by decide +kernel
theorem dL_thoughts_62 : decode cL_thoughts 62 = .ok (.invokestatic 124, 3) := by decide +kernel
theorem dL_thoughts_65 : decode cL_thoughts 65 = .ok (.istore 9, 2) := by decide +kernel
theorem dL_thoughts_67 : decode cL_thoughts 67 = .ok (.iload 9, 2) := by decide +kernel
theorem dL_thoughts_69 : decode cL_thoughts 69 = .ok (.ifCond .ne 7, 3) := by decide +kernel
theorem dL_thoughts_72 : decode cL_thoughts 72 = .ok (.iconst 1, 1) := by decide +kernel
theorem dL_thoughts_73 : decode cL_thoughts 73 = .ok (.goto 4, 3) := by decide +kernel
theorem dL_thoughts_76 : decode cL_thoughts 76 = .ok (.iconst 0, 1) := by decide +kernel
theorem dL_thoughts_77 : decode cL_thoughts 77 = .ok (.aload_n 0, 1) := by decide +kernel
theorem dL_thoughts_78 : decode cL_thoughts 78 = .ok (.iconst 3, 1) := by decide +kernel
theorem dL_thoughts_79 : decode cL_thoughts 79 = .ok (.invokestatic 88, 3) := by decide +kernel
theorem dL_thoughts_82 : decode cL_thoughts 82 = .ok (.ifCond .ne 7, 3) := by decide +kernel
theorem dL_thoughts_85 : decode cL_thoughts 85 = .ok (.iconst 1, 1) := by decide +kernel
theorem dL_thoughts_86 : decode cL_thoughts 86 = .ok (.goto 4, 3) := by decide +kernel
theorem dL_thoughts_89 : decode cL_thoughts 89 = .ok (.iconst 0, 1) := by decide +kernel
theorem dL_thoughts_90 : decode cL_thoughts 90 = .ok (.if_icmp .ne 39, 3) := by decide +kernel
theorem dL_thoughts_93 : decode cL_thoughts 93 = .ok (.iload 9, 2) := by decide +kernel
theorem dL_thoughts_95 : decode cL_thoughts 95 = .ok (.iconst (-1), 1) := by decide +kernel
theorem dL_thoughts_96 : decode cL_thoughts 96 = .ok (.if_icmp .lt 33, 3) := by decide +kernel
theorem dL_thoughts_99 : decode cL_thoughts 99 = .ok (.iload 9, 2) := by decide +kernel
theorem dL_thoughts_101 : decode cL_thoughts 101 = .ok (.sipush 200, 3) := by decide +kernel
theorem dL_thoughts_104 : decode cL_thoughts 104 = .ok (.if_icmp .gt 25, 3) := by decide +kernel
theorem dL_thoughts_107 : decode cL_thoughts 107 = .ok (.iload 8, 2) := by decide +kernel
theorem dL_thoughts_109 : decode cL_thoughts 109 = .ok (.ifCond .lt 20, 3) := by decide +kernel
theorem dL_thoughts_112 : decode cL_thoughts 112 = .ok (.aload_n 0, 1) := by decide +kernel
theorem dL_thoughts_113 : decode cL_thoughts 113 = .ok (.iload 4, 2) := by decide +kernel
theorem dL_thoughts_115 : decode cL_thoughts 115 = .ok (.iload 5, 2) := by decide +kernel
theorem dL_thoughts_117 : decode cL_thoughts 117 = .ok (.iload 6, 2) := by decide +kernel
theorem dL_thoughts_119 : decode cL_thoughts 119 = .ok (.iconst 1, 1) := by decide +kernel
theorem dL_thoughts_120 : decode cL_thoughts 120 = .ok (.iadd, 1) := by decide +kernel
theorem dL_thoughts_121 : decode cL_thoughts 121 = .ok (.invokestatic 113, 3) := by decide +kernel
theorem dL_thoughts_124 : decode cL_thoughts 124 = .ok (.iload 8, 2) := by decide +kernel
theorem dL_thoughts_126 : decode cL_thoughts 126 = .ok (.if_icmp .ge 5, 3) := by decide +kernel
theorem dL_thoughts_129 : decode cL_thoughts 129 = .ok (.iconst 0, 1) := by decide +kernel
theorem dL_thoughts_130 : decode cL_thoughts 130 = .ok (.ireturn, 1) := by decide +kernel
theorem dL_thoughts_131 : decode cL_thoughts 131 = .ok (.iload 7, 2) := by decide +kernel
theorem dL_thoughts_133 : decode cL_thoughts 133 = .ok (.ifCond .ne 34, 3) := by decide +kernel
theorem dL_thoughts_136 : decode cL_thoughts 136 = .ok (.aload_n 0, 1) := by decide +kernel
theorem dL_thoughts_137 : decode cL_thoughts 137 = .ok (.invokevirtual 109, 3) := by decide +kernel
theorem dL_thoughts_140 : decode cL_thoughts 140 = .ok (.lload_n 2, 1) := by decide +kernel
theorem dL_thoughts_141 : decode cL_thoughts 141 = .ok (.lcmp, 1) := by decide +kernel
theorem dL_thoughts_142 : decode cL_thoughts 142 = .ok (.ifCond .ne 23, 3) := by decide +kernel
theorem dL_thoughts_145 : decode cL_thoughts 145 = .ok (.aload_n 0, 1) := by decide +kernel
theorem dL_thoughts_146 : decode cL_thoughts 146 = .ok (.iconst 0, 1) := by decide +kernel
theorem dL_thoughts_147 : decode cL_thoughts 147 = .ok (.iload 4, 2) := by decide +kernel
theorem dL_thoughts_149 : decode cL_thoughts 149 = .ok (.iload 5, 2) := by decide +kernel
theorem dL_thoughts_151 : decode cL_thoughts 151 = .ok (.iload 6, 2) := by decide +kernel
theorem dL_thoughts_153 : decode cL_thoughts 153 = .ok (.invokestatic 126, 3) := by decide +kernel
theorem dL_thoughts_156 : decode cL_thoughts 156 = .ok (.ldc 29, 2) := by decide +kernel
theorem dL_thoughts_158 : decode cL_thoughts 158 = .ok (.if_icmp .ne 7, 3) := by decide +kernel
theorem dL_thoughts_161 : decode cL_thoughts 161 = .ok (.iconst 1, 1) := by decide +kernel
theorem dL_thoughts_162 : decode cL_thoughts 162 = .ok (.goto 4, 3) := by decide +kernel
theorem dL_thoughts_165 : decode cL_thoughts 165 = .ok (.iconst 0, 1) := by decide +kernel
theorem dL_thoughts_166 : decode cL_thoughts 166 = .ok (.ireturn, 1) := by decide +kernel
theorem dL_thoughts_167 : decode cL_thoughts 167 = .ok (.iload_n 1, 1) := by decide +kernel
theorem dL_thoughts_168 : decode cL_thoughts 168 = .ok (.bipush 13, 2) := by decide +kernel
theorem dL_thoughts_170 : decode cL_thoughts 170 = .ok (.ishr, 1) := by decide +kernel
theorem dL_thoughts_171 : decode cL_thoughts 171 = .ok (.iload 7, 2) := by decide +kernel
theorem dL_thoughts_173 : decode cL_thoughts 173 = .ok (.invokestatic 121, 3) := by decide +kernel
theorem dL_thoughts_176 : decode cL_thoughts 176 = .ok (.istore 10, 2) := by decide +kernel
theorem dL_thoughts_178 : decode cL_thoughts 178 = .ok (.aload_n 0, 1) := by decide +kernel
theorem dL_thoughts_179 : decode cL_thoughts 179 = .ok (.iload 10, 2) := by decide +kernel
theorem dL_thoughts_181 : decode cL_thoughts 181 = .ok (.iload 4, 2) := by decide +kernel
theorem dL_thoughts_183 : decode cL_thoughts 183 = .ok (.iload 5, 2) := by decide +kernel
theorem dL_thoughts_185 : decode cL_thoughts 185 = .ok (.iload 6, 2) := by decide +kernel
theorem dL_thoughts_187 : decode cL_thoughts 187 = .ok (.invokestatic 126, 3) := by decide +kernel
theorem dL_thoughts_190 : decode cL_thoughts 190 = .ok (.istore 11, 2) := by decide +kernel
theorem dL_thoughts_192 : decode cL_thoughts 192 = .ok (.aload_n 0, 1) := by decide +kernel
theorem dL_thoughts_193 : decode cL_thoughts 193 = .ok (.iload 10, 2) := by decide +kernel
theorem dL_thoughts_195 : decode cL_thoughts 195 = .ok (.iload 4, 2) := by decide +kernel
theorem dL_thoughts_197 : decode cL_thoughts 197 = .ok (.iload 5, 2) := by decide +kernel
theorem dL_thoughts_199 : decode cL_thoughts 199 = .ok (.iload 6, 2) := by decide +kernel
theorem dL_thoughts_201 : decode cL_thoughts 201 = .ok (.invokestatic 129, 3) := by decide +kernel
theorem dL_thoughts_204 : decode cL_thoughts 204 = .ok (.istore 12, 2) := by decide +kernel
theorem dL_thoughts_206 : decode cL_thoughts 206 = .ok (.aload_n 0, 1) := by decide +kernel
theorem dL_thoughts_207 : decode cL_thoughts 207 = .ok (.invokevirtual 109, 3) := by decide +kernel
theorem dL_thoughts_210 : decode cL_thoughts 210 = .ok (.lload_n 2, 1) := by decide +kernel
theorem dL_thoughts_211 : decode cL_thoughts 211 = .ok (.lcmp, 1) := by decide +kernel
theorem dL_thoughts_212 : decode cL_thoughts 212 = .ok (.ifCond .ne 45, 3) := by decide +kernel
theorem dL_thoughts_215 : decode cL_thoughts 215 = .ok (.iload 12, 2) := by decide +kernel
theorem dL_thoughts_217 : decode cL_thoughts 217 = .ok (.iconst (-1), 1) := by decide +kernel
theorem dL_thoughts_218 : decode cL_thoughts 218 = .ok (.if_icmp .eq 26, 3) := by decide +kernel
theorem dL_thoughts_221 : decode cL_thoughts 221 = .ok (.iload 12, 2) := by decide +kernel
theorem dL_thoughts_223 : decode cL_thoughts 223 = .ok (.bipush 100, 2) := by decide +kernel
theorem dL_thoughts_225 : decode cL_thoughts 225 = .ok (.if_icmp .lt 32, 3) := by decide +kernel
theorem dL_thoughts_228 : decode cL_thoughts 228 = .ok (.iload 12, 2) := by decide +kernel
theorem dL_thoughts_230 : decode cL_thoughts 230 = .ok (.sipush 5000, 3) := by decide +kernel
theorem dL_thoughts_233 : decode cL_thoughts 233 = .ok (.if_icmp .gt 24, 3) := by decide +kernel
theorem dL_thoughts_236 : decode cL_thoughts 236 = .ok (.iload 12, 2) := by decide +kernel
theorem dL_thoughts_238 : decode cL_thoughts 238 = .ok (.bipush 100, 2) := by decide +kernel
theorem dL_thoughts_240 : decode cL_thoughts 240 = .ok (.irem, 1) := by decide +kernel
theorem dL_thoughts_241 : decode cL_thoughts 241 = .ok (.ifCond .ne 16, 3) := by decide +kernel
theorem dL_thoughts_244 : decode cL_thoughts 244 = .ok (.iload 11, 2) := by decide +kernel
theorem dL_thoughts_246 : decode cL_thoughts 246 = .ok (.iconst (-1), 1) := by decide +kernel
theorem dL_thoughts_247 : decode cL_thoughts 247 = .ok (.if_icmp .lt 10, 3) := by decide +kernel
theorem dL_thoughts_250 : decode cL_thoughts 250 = .ok (.iload 11, 2) := by decide +kernel
theorem dL_thoughts_252 : decode cL_thoughts 252 = .ok (.bipush 10, 2) := by decide +kernel
theorem dL_thoughts_254 : decode cL_thoughts 254 = .ok (.if_icmp .le 5, 3) := by decide +kernel
theorem dL_thoughts_257 : decode cL_thoughts 257 = .ok (.iconst 0, 1) := by decide +kernel
theorem dL_thoughts_258 : decode cL_thoughts 258 = .ok (.ireturn, 1) := by decide +kernel
theorem dL_thoughts_259 : decode cL_thoughts 259 = .ok (.iload 8, 2) := by decide +kernel
theorem dL_thoughts_261 : decode cL_thoughts 261 = .ok (.ifCond .le 62, 3) := by decide +kernel
theorem dL_thoughts_264 : decode cL_thoughts 264 = .ok (.iload 11, 2) := by decide +kernel
theorem dL_thoughts_266 : decode cL_thoughts 266 = .ok (.iconst (-1), 1) := by decide +kernel
theorem dL_thoughts_267 : decode cL_thoughts 267 = .ok (.if_icmp .ne 56, 3) := by decide +kernel
theorem dL_thoughts_270 : decode cL_thoughts 270 = .ok (.iload_n 1, 1) := by decide +kernel
theorem dL_thoughts_271 : decode cL_thoughts 271 = .ok (.bipush 17, 2) := by decide +kernel
theorem dL_thoughts_273 : decode cL_thoughts 273 = .ok (.ishr, 1) := by decide +kernel
theorem dL_thoughts_274 : decode cL_thoughts 274 = .ok (.bipush 12, 2) := by decide +kernel
theorem dL_thoughts_276 : decode cL_thoughts 276 = .ok (.invokestatic 121, 3) := by decide +kernel
theorem dL_thoughts_279 : decode cL_thoughts 279 = .ok (.istore 13, 2) := by decide +kernel
theorem dL_thoughts_281 : decode cL_thoughts 281 = .ok (.aload_n 0, 1) := by decide +kernel
theorem dL_thoughts_282 : decode cL_thoughts 282 = .ok (.iload 10, 2) := by decide +kernel
theorem dL_thoughts_284 : decode cL_thoughts 284 = .ok (.iload 13, 2) := by decide +kernel
theorem dL_thoughts_286 : decode cL_thoughts 286 = .ok (.invokestatic 131, 3) := by decide +kernel
theorem dL_thoughts_289 : decode cL_thoughts 289 = .ok (.istore 14, 2) := by decide +kernel
theorem dL_thoughts_291 : decode cL_thoughts 291 = .ok (.iload 14, 2) := by decide +kernel
theorem dL_thoughts_293 : decode cL_thoughts 293 = .ok (.ifCond .lt 27, 3) := by decide +kernel
theorem dL_thoughts_296 : decode cL_thoughts 296 = .ok (.aload_n 0, 1) := by decide +kernel
theorem dL_thoughts_297 : decode cL_thoughts 297 = .ok (.iload 4, 2) := by decide +kernel
theorem dL_thoughts_299 : decode cL_thoughts 299 = .ok (.iload 5, 2) := by decide +kernel
theorem dL_thoughts_301 : decode cL_thoughts 301 = .ok (.iload 6, 2) := by decide +kernel
theorem dL_thoughts_303 : decode cL_thoughts 303 = .ok (.invokestatic 113, 3) := by decide +kernel
theorem dL_thoughts_306 : decode cL_thoughts 306 = .ok (.iload 8, 2) := by decide +kernel
theorem dL_thoughts_308 : decode cL_thoughts 308 = .ok (.if_icmp .lt 10, 3) := by decide +kernel
theorem dL_thoughts_311 : decode cL_thoughts 311 = .ok (.aload_n 0, 1) := by decide +kernel
theorem dL_thoughts_312 : decode cL_thoughts 312 = .ok (.invokestatic 118, 3) := by decide +kernel
theorem dL_thoughts_315 : decode cL_thoughts 315 = .ok (.ifCond .ge 5, 3) := by decide +kernel
theorem dL_thoughts_318 : decode cL_thoughts 318 = .ok (.iconst 0, 1) := by decide +kernel
theorem dL_thoughts_319 : decode cL_thoughts 319 = .ok (.ireturn, 1) := by decide +kernel
theorem dL_thoughts_320 : decode cL_thoughts 320 = .ok (.goto 72, 3) := by decide +kernel
theorem dL_thoughts_323 : decode cL_thoughts 323 = .ok (.iload 11, 2) := by decide +kernel
theorem dL_thoughts_325 : decode cL_thoughts 325 = .ok (.ifCond .lt 67, 3) := by decide +kernel
theorem dL_thoughts_328 : decode cL_thoughts 328 = .ok (.aload_n 0, 1) := by decide +kernel
theorem dL_thoughts_329 : decode cL_thoughts 329 = .ok (.iload 10, 2) := by decide +kernel
theorem dL_thoughts_331 : decode cL_thoughts 331 = .ok (.iload 11, 2) := by decide +kernel
theorem dL_thoughts_333 : decode cL_thoughts 333 = .ok (.iconst 1, 1) := by decide +kernel
theorem dL_thoughts_334 : decode cL_thoughts 334 = .ok (.iadd, 1) := by decide +kernel
theorem dL_thoughts_335 : decode cL_thoughts 335 = .ok (.invokestatic 102, 3) := by decide +kernel
theorem dL_thoughts_338 : decode cL_thoughts 338 = .ok (.istore 13, 2) := by decide +kernel
theorem dL_thoughts_340 : decode cL_thoughts 340 = .ok (.aload_n 0, 1) := by decide +kernel
theorem dL_thoughts_341 : decode cL_thoughts 341 = .ok (.iload 10, 2) := by decide +kernel
theorem dL_thoughts_343 : decode cL_thoughts 343 = .ok (.iload 11, 2) := by decide +kernel
theorem dL_thoughts_345 : decode cL_thoughts 345 = .ok (.invokestatic 131, 3) := by decide +kernel
theorem dL_thoughts_348 : decode cL_thoughts 348 = .ok (.iload 13, 2) := by decide +kernel
theorem dL_thoughts_350 : decode cL_thoughts 350 = .ok (.if_icmp .ne 40, 3) := by decide +kernel
theorem dL_thoughts_353 : decode cL_thoughts 353 = .ok (.aload_n 0, 1) := by decide +kernel
theorem dL_thoughts_354 : decode cL_thoughts 354 = .ok (.iload 4, 2) := by decide +kernel
theorem dL_thoughts_356 : decode cL_thoughts 356 = .ok (.iload 5, 2) := by decide +kernel
theorem dL_thoughts_358 : decode cL_thoughts 358 = .ok (.iload 6, 2) := by decide +kernel
theorem dL_thoughts_360 : decode cL_thoughts 360 = .ok (.invokestatic 113, 3) := by decide +kernel
theorem dL_thoughts_363 : decode cL_thoughts 363 = .ok (.iload 8, 2) := by decide +kernel
theorem dL_thoughts_365 : decode cL_thoughts 365 = .ok (.if_icmp .ge 25, 3) := by decide +kernel
theorem dL_thoughts_368 : decode cL_thoughts 368 = .ok (.aload_n 0, 1) := by decide +kernel
theorem dL_thoughts_369 : decode cL_thoughts 369 = .ok (.invokestatic 118, 3) := by decide +kernel
theorem dL_thoughts_372 : decode cL_thoughts 372 = .ok (.ifCond .lt 18, 3) := by decide +kernel
theorem dL_thoughts_375 : decode cL_thoughts 375 = .ok (.aload_n 0, 1) := by decide +kernel
theorem dL_thoughts_376 : decode cL_thoughts 376 = .ok (.iload 10, 2) := by decide +kernel
theorem dL_thoughts_378 : decode cL_thoughts 378 = .ok (.iload 11, 2) := by decide +kernel
theorem dL_thoughts_380 : decode cL_thoughts 380 = .ok (.iconst 1, 1) := by decide +kernel
theorem dL_thoughts_381 : decode cL_thoughts 381 = .ok (.iadd, 1) := by decide +kernel
theorem dL_thoughts_382 : decode cL_thoughts 382 = .ok (.invokestatic 102, 3) := by decide +kernel
theorem dL_thoughts_385 : decode cL_thoughts 385 = .ok (.iload 13, 2) := by decide +kernel
theorem dL_thoughts_387 : decode cL_thoughts 387 = .ok (.if_icmp .eq 5, 3) := by decide +kernel
theorem dL_thoughts_390 : decode cL_thoughts 390 = .ok (.iconst 0, 1) := by decide +kernel
theorem dL_thoughts_391 : decode cL_thoughts 391 = .ok (.ireturn, 1) := by decide +kernel
theorem dL_thoughts_392 : decode cL_thoughts 392 = .ok (.iload 11, 2) := by decide +kernel
theorem dL_thoughts_394 : decode cL_thoughts 394 = .ok (.iconst (-1), 1) := by decide +kernel
theorem dL_thoughts_395 : decode cL_thoughts 395 = .ok (.if_icmp .eq 8, 3) := by decide +kernel
theorem dL_thoughts_398 : decode cL_thoughts 398 = .ok (.iload 8, 2) := by decide +kernel
theorem dL_thoughts_400 : decode cL_thoughts 400 = .ok (.ifCond .le 7, 3) := by decide +kernel
theorem dL_thoughts_403 : decode cL_thoughts 403 = .ok (.iconst 1, 1) := by decide +kernel
theorem dL_thoughts_404 : decode cL_thoughts 404 = .ok (.goto 4, 3) := by decide +kernel
theorem dL_thoughts_407 : decode cL_thoughts 407 = .ok (.iconst 0, 1) := by decide +kernel
theorem dL_thoughts_408 : decode cL_thoughts 408 = .ok (.ireturn, 1) := by decide +kernel
theorem dL_refuses_0 : decode cL_refuses 0 = .ok (.aload_n 0, 1) := by decide +kernel
theorem dL_refuses_1 : decode cL_refuses 1 = .ok (.invokevirtual 109, 3) := by decide +kernel
theorem dL_refuses_4 : decode cL_refuses 4 = .ok (.lstore_n 1, 1) := by decide +kernel
theorem dL_refuses_5 : decode cL_refuses 5 = .ok (.aload_n 0, 1) := by decide +kernel
theorem dL_refuses_6 : decode cL_refuses 6 = .ok (.iconst 1, 1) := by decide +kernel
theorem dL_refuses_7 : decode cL_refuses 7 = .ok (.invokestatic 88, 3) := by decide +kernel
theorem dL_refuses_10 : decode cL_refuses 10 = .ok (.istore_n 3, 1) := by decide +kernel
theorem dL_refuses_11 : decode cL_refuses 11 = .ok (.aload_n 0, 1) := by decide +kernel
theorem dL_refuses_12 : decode cL_refuses 12 = .ok (.iconst 2, 1) := by decide +kernel
theorem dL_refuses_13 : decode cL_refuses 13 = .ok (.invokestatic 88, 3) := by decide +kernel
theorem dL_refuses_16 : decode cL_refuses 16 = .ok (.istore 4, 2) := by decide +kernel
theorem dL_refuses_18 : decode cL_refuses 18 = .ok (.aload_n 0, 1) := by decide +kernel
theorem dL_refuses_19 : decode cL_refuses 19 = .ok (.sipush 2001, 3) := by decide +kernel
theorem dL_refuses_22 : decode cL_refuses 22 = .ok (.iconst 0, 1) := by decide +kernel
theorem dL_refuses_23 : decode cL_refuses 23 = .ok (.invokestatic 133, 3) := by decide +kernel
theorem dL_refuses_26 : decode cL_refuses 26 = .ok (.ldc 17, 2) := by decide +kernel
theorem dL_refuses_28 : decode cL_refuses 28 = .ok (.if_icmp .ne 159, 3) := by decide +kernel
theorem dL_refuses_31 : decode cL_refuses 31 = .ok (.aload_n 0, 1) := by decide +kernel
theorem dL_refuses_32 : decode cL_refuses 32 = .ok (.bipush 10, 2) := by decide +kernel
theorem dL_refuses_34 : decode cL_refuses 34 = .ok (.iconst (-1), 1) := by decide +kernel
theorem dL_refuses_35 : decode cL_refuses 35 = .ok (.invokestatic 133, 3) := by decide +kernel
theorem dL_refuses_38 : decode cL_refuses 38 = .ok (.ldc 17, 2) := by decide +kernel
theorem dL_refuses_40 : decode cL_refuses 40 = .ok (.if_icmp .ne 147, 3) := by decide +kernel
theorem dL_refuses_43 : decode cL_refuses 43 = .ok (.aload_n 0, 1) := by decide +kernel
theorem dL_refuses_44 : decode cL_refuses 44 = .ok (.sipush 5001, 3) := by decide +kernel
theorem dL_refuses_47 : decode cL_refuses 47 = .ok (.iconst 0, 1) := by decide +kernel
theorem dL_refuses_48 : decode cL_refuses 48 = .ok (.invokestatic 135, 3) := by decide +kernel
theorem dL_refuses_51 : decode cL_refuses 51 = .ok (.ldc 17, 2) := by decide +kernel
theorem dL_refuses_53 : decode cL_refuses 53 = .ok (.if_icmp .ne 134, 3) := by decide +kernel
theorem dL_refuses_56 : decode cL_refuses 56 = .ok (.aload_n 0, 1) := by decide +kernel
theorem dL_refuses_57 : decode cL_refuses 57 = .ok (.bipush 100, 2) := by decide +kernel
theorem dL_refuses_59 : decode cL_refuses 59 = .ok (.iconst (-1), 1) := by decide +kernel
theorem dL_refuses_60 : decode cL_refuses 60 = .ok (.invokestatic 135, 3) := by decide +kernel
theorem dL_refuses_63 : decode cL_refuses 63 = .ok (.ldc 17, 2) := by decide +kernel
theorem dL_refuses_65 : decode cL_refuses 65 = .ok (.if_icmp .ne 122, 3) := by decide +kernel
theorem dL_refuses_68 : decode cL_refuses 68 = .ok (.aload_n 0, 1) := by decide +kernel
theorem dL_refuses_69 : decode cL_refuses 69 = .ok (.iload 4, 2) := by decide +kernel
theorem dL_refuses_71 : decode cL_refuses 71 = .ok (.iconst 0, 1) := by decide +kernel
theorem dL_refuses_72 : decode cL_refuses 72 = .ok (.invokestatic 137, 3) := by decide +kernel
theorem dL_refuses_75 : decode cL_refuses 75 = .ok (.ldc 29, 2) := by decide +kernel
theorem dL_refuses_77 : decode cL_refuses 77 = .ok (.if_icmp .ne 110, 3) := by decide +kernel
theorem dL_refuses_80 : decode cL_refuses 80 = .ok (.aload_n 0, 1) := by decide +kernel
theorem dL_refuses_81 : decode cL_refuses 81 = .ok (.iconst (-1), 1) := by decide +kernel
theorem dL_refuses_82 : decode cL_refuses 82 = .ok (.iconst 0, 1) := by decide +kernel
theorem dL_refuses_83 : decode cL_refuses 83 = .ok (.invokestatic 137, 3) := by decide +kernel
theorem dL_refuses_86 : decode cL_refuses 86 = .ok (.ldc 29, 2) := by decide +kernel
theorem dL_refuses_88 : decode cL_refuses 88 = .ok (.if_icmp .ne 99, 3) := by decide +kernel
theorem dL_refuses_91 : decode cL_refuses 91 = .ok (.aload_n 0, 1) := by decide +kernel
theorem dL_refuses_92 : decode cL_refuses 92 = .ok (.iconst 0, 1) := by decide +kernel
theorem dL_refuses_93 : decode cL_refuses 93 = .ok (.iload_n 3, 1) := by decide +kernel
theorem dL_refuses_94 : decode cL_refuses 94 = .ok (.invokestatic 137, 3) := by decide +kernel
theorem dL_refuses_97 : decode cL_refuses 97 = .ok (.ldc 29, 2) := by decide +kernel
theorem dL_refuses_99 : decode cL_refuses 99 = .ok (.if_icmp .ne 88, 3) := by decide +kernel
theorem dL_refuses_102 : decode cL_refuses 102 = .ok (.aload_n 0, 1) := by decide +kernel
theorem dL_refuses_103 : decode cL_refuses 103 = .ok (.iload 4, 2) := by decide +kernel
theorem dL_refuses_105 : decode cL_refuses 105 = .ok (.invokestatic 139, 3) := by decide +kernel
theorem dL_refuses_108 : decode cL_refuses 108 = .ok (.ldc 29, 2) := by decide +kernel
theorem dL_refuses_110 : decode cL_refuses 110 = .ok (.if_icmp .ne 77, 3) := by decide +kernel
theorem dL_refuses_113 : decode cL_refuses 113 = .ok (.aload_n 0, 1) := by decide +kernel
theorem dL_refuses_114 : decode cL_refuses 114 = .ok (.iload 4, 2) := by decide +kernel
theorem dL_refuses_116 : decode cL_refuses 116 = .ok (.iconst 0, 1) := by decide +kernel
theorem dL_refuses_117 : decode cL_refuses 117 = .ok (.invokestatic 131, 3) := by decide +kernel
theorem dL_refuses_120 : decode cL_refuses 120 = .ok (.ldc 29, 2) := by decide +kernel
theorem dL_refuses_122 : decode cL_refuses 122 = .ok (.if_icmp .ne 65, 3) := by decide +kernel
theorem dL_refuses_125 : decode cL_refuses 125 = .ok (.aload_n 0, 1) := by decide +kernel
theorem dL_refuses_126 : decode cL_refuses 126 = .ok (.iconst 3, 1) := by decide +kernel
theorem dL_refuses_127 : decode cL_refuses 127 = .ok (.iconst 0, 1) := by decide +kernel
theorem dL_refuses_128 : decode cL_refuses 128 = .ok (.iconst 0, 1) := by decide +kernel
theorem dL_refuses_129 : decode cL_refuses 129 = .ok (.iconst 0, 1) := by decide +kernel
theorem dL_refuses_130 : decode cL_refuses 130 = .ok (.invokestatic 141, 3) := by decide +kernel
theorem dL_refuses_133 : decode cL_refuses 133 = .ok (.ldc 29, 2) := by decide +kernel
theorem dL_refuses_135 : decode cL_refuses 135 = .ok (.if_icmp .ne 52, 3) := by decide +kernel
theorem dL_refuses_138 : decode cL_refuses 138 = .ok (.aload_n 0, 1) := by decide +kernel
theorem dL_refuses_139 : decode cL_refuses 139 = .ok (.iconst 0, 1) := by decide +kernel
theorem dL_refuses_140 : decode cL_refuses 140 = .ok (.iconst 0, 1) := by decide +kernel
theorem dL_refuses_141 : decode cL_refuses 141 = .ok (.iconst 1, 1) := by decide +kernel
theorem dL_refuses_142 : decode cL_refuses 142 = .ok (.iconst 1, 1) := by decide +kernel
theorem dL_refuses_143 : decode cL_refuses 143 = .ok (.invokestatic 141, 3) := by decide +kernel
theorem dL_refuses_146 : decode cL_refuses 146 = .ok (.ldc 17, 2) := by decide +kernel
theorem dL_refuses_148 : decode cL_refuses 148 = .ok (.if_icmp .ne 39, 3) := by decide +kernel
theorem dL_refuses_151 : decode cL_refuses 151 = .ok (.aload_n 0, 1) := by decide +kernel
theorem dL_refuses_152 : decode cL_refuses 152 = .ok (.bipush 51, 2) := by decide +kernel
theorem dL_refuses_154 : decode cL_refuses 154 = .ok (.invokestatic 143, 3) := by decide +kernel
theorem dL_refuses_157 : decode cL_refuses 157 = .ok (.ldc 17, 2) := by decide +kernel
theorem dL_refuses_159 : decode cL_refuses 159 = .ok (.if_icmp .ne 28, 3) := by decide +kernel
theorem dL_refuses_162 : decode cL_refuses 162 = .ok (.aload_n 0, 1) := by decide +kernel
theorem dL_refuses_163 : decode cL_refuses 163 = .ok (.iconst (-1), 1) := by decide +kernel
theorem dL_refuses_164 : decode cL_refuses 164 = .ok (.invokestatic 145, 3) := by decide +kernel
theorem dL_refuses_167 : decode cL_refuses 167 = .ok (.ldc 17, 2) := by decide +kernel
theorem dL_refuses_169 : decode cL_refuses 169 = .ok (.if_icmp .ne 18, 3) := by decide +kernel
theorem dL_refuses_172 : decode cL_refuses 172 = .ok (.aload_n 0, 1) := by decide +kernel
theorem dL_refuses_173 : decode cL_refuses 173 = .ok (.ldc 147, 2) := by decide +kernel
theorem dL_refuses_175 : decode cL_refuses 175 = .ok (.invokestatic 145, 3) := by decide +kernel
theorem dL_refuses_178 : decode cL_refuses 178 = .ok (.ldc 17, 2) := by decide +kernel
theorem dL_refuses_180 : decode cL_refuses 180 = .ok (.if_icmp .ne 7, 3) := by decide +kernel
theorem dL_refuses_183 : decode cL_refuses 183 = .ok (.iconst 1, 1) := by decide +kernel
theorem dL_refuses_184 : decode cL_refuses 184 = .ok (.goto 4, 3) := by decide +kernel
theorem dL_refuses_187 : decode cL_refuses 187 = .ok (.iconst 0, 1) := by decide +kernel
theorem dL_refuses_188 : decode cL_refuses 188 = .ok (.istore 5, 2) := by decide +kernel
theorem dL_refuses_190 : decode cL_refuses 190 = .ok (.iload 5, 2) := by decide +kernel
theorem dL_refuses_192 : decode cL_refuses 192 = .ok (.ifCond .eq 185, 3) := by decide +kernel
theorem dL_refuses_195 : decode cL_refuses 195 = .ok (.aload_n 0, 1) := by decide +kernel
theorem dL_refuses_196 : decode cL_refuses 196 = .ok (.sipush 301, 3) := by decide +kernel
theorem dL_refuses_199 : decode cL_refuses 199 = .ok (.iconst 0, 1) := by decide +kernel
theorem dL_refuses_200 : decode cL_refuses 200 = .ok (.iconst 1, 1) := by decide +kernel
theorem dL_refuses_201 : decode cL_refuses 201 = .ok (.invokestatic 116, 3) := by decide +kernel
theorem dL_refuses_204 : decode cL_refuses 204 = .ok (.ldc 17, 2) := by decide +kernel
theorem dL_refuses_206 : decode cL_refuses 206 = .ok (.if_icmp .ne 171, 3) := by decide +kernel
theorem dL_refuses_209 : decode cL_refuses 209 = .ok (.aload_n 0, 1) := by decide +kernel
theorem dL_refuses_210 : decode cL_refuses 210 = .ok (.iconst 0, 1) := by decide +kernel
theorem dL_refuses_211 : decode cL_refuses 211 = .ok (.iconst (-1), 1) := by decide +kernel
theorem dL_refuses_212 : decode cL_refuses 212 = .ok (.iconst 1, 1) := by decide +kernel
theorem dL_refuses_213 : decode cL_refuses 213 = .ok (.invokestatic 116, 3) := by decide +kernel
theorem dL_refuses_216 : decode cL_refuses 216 = .ok (.ldc 17, 2) := by decide +kernel
theorem dL_refuses_218 : decode cL_refuses 218 = .ok (.if_icmp .ne 159, 3) := by decide +kernel
theorem dL_refuses_221 : decode cL_refuses 221 = .ok (.aload_n 0, 1) := by decide +kernel
theorem dL_refuses_222 : decode cL_refuses 222 = .ok (.iconst 0, 1) := by decide +kernel
theorem dL_refuses_223 : decode cL_refuses 223 = .ok (.iconst 0, 1) := by decide +kernel
theorem dL_refuses_224 : decode cL_refuses 224 = .ok (.iconst (-1), 1) := by decide +kernel
theorem dL_refuses_225 : decode cL_refuses 225 = .ok (.invokestatic 116, 3) := by decide +kernel
theorem dL_refuses_228 : decode cL_refuses 228 = .ok (.ldc 17, 2) := by decide +kernel
theorem dL_refuses_230 : decode cL_refuses 230 = .ok (.if_icmp .ne 147, 3) := by decide +kernel
theorem dL_refuses_233 : decode cL_refuses 233 = .ok (.aload_n 0, 1) := by decide +kernel
theorem dL_refuses_234 : decode cL_refuses 234 = .ok (.bipush 10, 2) := by decide +kernel
theorem dL_refuses_236 : decode cL_refuses 236 = .ok (.invokestatic 88, 3) := by decide +kernel
theorem dL_refuses_239 : decode cL_refuses 239 = .ok (.ldc 17, 2) := by decide +kernel
theorem dL_refuses_241 : decode cL_refuses 241 = .ok (.if_icmp .ne 136, 3) := by decide +kernel
theorem dL_refuses_244 : decode cL_refuses 244 = .ok (.aload_n 0, 1) := by decide +kernel
theorem dL_refuses_245 : decode cL_refuses 245 = .ok (.iconst (-1), 1) := by decide +kernel
theorem dL_refuses_246 : decode cL_refuses 246 = .ok (.invokestatic 88, 3) := by decide +kernel
theorem dL_refuses_249 : decode cL_refuses 249 = .ok (.ldc 17, 2) := by decide +kernel
theorem dL_refuses_251 : decode cL_refuses 251 = .ok (.if_icmp .ne 126, 3) := by decide +kernel
theorem dL_refuses_254 : decode cL_refuses 254 = .ok (.aload_n 0, 1) := by decide +kernel
theorem dL_refuses_255 : decode cL_refuses 255 = .ok (.iload_n 3, 1) := by decide +kernel
theorem dL_refuses_256 : decode cL_refuses 256 = .ok (.bipush 9, 2) := by decide +kernel
theorem dL_refuses_258 : decode cL_refuses 258 = .ok (.invokestatic 95, 3) := by decide +kernel
theorem dL_refuses_261 : decode cL_refuses 261 = .ok (.ldc 29, 2) := by decide +kernel
theorem dL_refuses_263 : decode cL_refuses 263 = .ok (.if_icmp .ne 114, 3) := by decide +kernel
theorem dL_refuses_266 : decode cL_refuses 266 = .ok (.aload_n 0, 1) := by decide +kernel
theorem dL_refuses_267 : decode cL_refuses 267 = .ok (.iload 4, 2) := by decide +kernel
theorem dL_refuses_269 : decode cL_refuses 269 = .ok (.bipush 9, 2) := by decide +kernel
theorem dL_refuses_271 : decode cL_refuses 271 = .ok (.invokestatic 100, 3) := by decide +kernel
theorem dL_refuses_274 : decode cL_refuses 274 = .ok (.ldc 29, 2) := by decide +kernel
theorem dL_refuses_276 : decode cL_refuses 276 = .ok (.if_icmp .ne 101, 3) := by decide +kernel
theorem dL_refuses_279 : decode cL_refuses 279 = .ok (.aload_n 0, 1) := by decide +kernel
theorem dL_refuses_280 : decode cL_refuses 280 = .ok (.iload 4, 2) := by decide +kernel
theorem dL_refuses_282 : decode cL_refuses 282 = .ok (.iconst 0, 1) := by decide +kernel
theorem dL_refuses_283 : decode cL_refuses 283 = .ok (.invokestatic 102, 3) := by decide +kernel
theorem dL_refuses_286 : decode cL_refuses 286 = .ok (.ldc 29, 2) := by decide +kernel
theorem dL_refuses_288 : decode cL_refuses 288 = .ok (.if_icmp .ne 89, 3) := by decide +kernel
theorem dL_refuses_291 : decode cL_refuses 291 = .ok (.aload_n 0, 1) := by decide +kernel
theorem dL_refuses_292 : decode cL_refuses 292 = .ok (.iconst (-1), 1) := by decide +kernel
theorem dL_refuses_293 : decode cL_refuses 293 = .ok (.bipush 9, 2) := by decide +kernel
theorem dL_refuses_295 : decode cL_refuses 295 = .ok (.invokestatic 98, 3) := by decide +kernel
theorem dL_refuses_298 : decode cL_refuses 298 = .ok (.ldc 29, 2) := by decide +kernel
theorem dL_refuses_300 : decode cL_refuses 300 = .ok (.if_icmp .ne 77, 3) := by decide +kernel
theorem dL_refuses_303 : decode cL_refuses 303 = .ok (.aload_n 0, 1) := by decide +kernel
theorem dL_refuses_304 : decode cL_refuses 304 = .ok (.iconst 0, 1) := by decide +kernel
theorem dL_refuses_305 : decode cL_refuses 305 = .ok (.bipush 101, 2) := by decide +kernel
theorem dL_refuses_307 : decode cL_refuses 307 = .ok (.iconst 0, 1) := by decide +kernel
theorem dL_refuses_308 : decode cL_refuses 308 = .ok (.invokestatic 113, 3) := by decide +kernel
theorem dL_refuses_311 : decode cL_refuses 311 = .ok (.ldc 17, 2) := by decide +kernel
theorem dL_refuses_313 : decode cL_refuses 313 = .ok (.if_icmp .ne 64, 3) := by decide +kernel
theorem dL_refuses_316 : decode cL_refuses 316 = .ok (.aload_n 0, 1) := by decide +kernel
theorem dL_refuses_317 : decode cL_refuses 317 = .ok (.iload 4, 2) := by decide +kernel
theorem dL_refuses_319 : decode cL_refuses 319 = .ok (.sipush 999, 3) := by decide +kernel
theorem dL_refuses_322 : decode cL_refuses 322 = .ok (.iconst 0, 1) := by decide +kernel
theorem dL_refuses_323 : decode cL_refuses 323 = .ok (.iconst 0, 1) := by decide +kernel
theorem dL_refuses_324 : decode cL_refuses 324 = .ok (.invokestatic 126, 3) := by decide +kernel
theorem dL_refuses_327 : decode cL_refuses 327 = .ok (.ldc 29, 2) := by decide +kernel
theorem dL_refuses_329 : decode cL_refuses 329 = .ok (.if_icmp .ne 48, 3) := by decide +kernel
theorem dL_refuses_332 : decode cL_refuses 332 = .ok (.aload_n 0, 1) := by decide +kernel
theorem dL_refuses_333 : decode cL_refuses 333 = .ok (.iload 4, 2) := by decide +kernel
theorem dL_refuses_335 : decode cL_refuses 335 = .ok (.sipush 999, 3) := by decide +kernel
theorem dL_refuses_338 : decode cL_refuses 338 = .ok (.iconst 0, 1) := by decide +kernel
theorem dL_refuses_339 : decode cL_refuses 339 = .ok (.iconst 0, 1) := by decide +kernel
theorem dL_refuses_340 : decode cL_refuses 340 = .ok (.invokestatic 129, 3) := by decide +kernel
theorem dL_refuses_343 : decode cL_refuses 343 = .ok (.ldc 29, 2) := by decide +kernel
theorem dL_refuses_345 : decode cL_refuses 345 = .ok (.if_icmp .ne 32, 3) := by decide +kernel
theorem dL_refuses_348 : decode cL_refuses 348 = .ok (.aload_n 0, 1) := by decide +kernel
theorem dL_refuses_349 : decode cL_refuses 349 = .ok (.sipush 999, 3) := by decide +kernel
theorem dL_refuses_352 : decode cL_refuses 352 = .ok (.iconst 0, 1) := by decide +kernel
theorem dL_refuses_353 : decode cL_refuses 353 = .ok (.invokestatic 124, 3) := by decide +kernel
theorem dL_refuses_356 : decode cL_refuses 356 = .ok (.ldc 17, 2) := by decide +kernel
theorem dL_refuses_358 : decode cL_refuses 358 = .ok (.if_icmp .ne 19, 3) := by decide +kernel
