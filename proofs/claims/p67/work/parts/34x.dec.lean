theorem dL_text_98 : decode cL_text 98 = .ok (.iinc 3 1, 3) := by decide +kernel
theorem dL_text_101 : decode cL_text 101 = .ok (.goto (-46), 3) := by decide +kernel
theorem dL_text_104 : decode cL_text 104 = .ok (.iconst 0, 1) := by decide +kernel
theorem dL_text_105 : decode cL_text 105 = .ok (.istore_n 3, 1) := by decide +kernel
theorem dL_text_106 : decode cL_text 106 = .ok (.iload_n 3, 1) := by decide +kernel
theorem dL_text_107 : decode cL_text 107 = .ok (.iconst 3, 1) := by decide +kernel
theorem dL_text_108 : decode cL_text 108 = .ok (.if_icmp .ge 42, 3) := by decide +kernel
theorem dL_text_111 : decode cL_text 111 = .ok (.aload_n 2, 1) := by decide +kernel
theorem dL_text_112 : decode cL_text 112 = .ok (.ldc 95, 2) := by decide +kernel
theorem dL_text_114 : decode cL_text 114 = .ok (.invokevirtual 88, 3) := by decide +kernel
theorem dL_text_117 : decode cL_text 117 = .ok (.bipush 97, 2) := by decide +kernel
theorem dL_text_119 : decode cL_text 119 = .ok (.aload_n 0, 1) := by decide +kernel
theorem dL_text_120 : decode cL_text 120 = .ok (.getfield 66, 3) := by decide +kernel
theorem dL_text_123 : decode cL_text 123 = .ok (.iload_n 3, 1) := by decide +kernel
theorem dL_text_124 : decode cL_text 124 = .ok (.aaload, 1) := by decide +kernel
theorem dL_text_125 : decode cL_text 125 = .ok (.iconst 1, 1) := by decide +kernel
theorem dL_text_126 : decode cL_text 126 = .ok (.iaload, 1) := by decide +kernel
theorem dL_text_127 : decode cL_text 127 = .ok (.iadd, 1) := by decide +kernel
theorem dL_text_128 : decode cL_text 128 = .ok (.i2c, 1) := by decide +kernel
theorem dL_text_129 : decode cL_text 129 = .ok (.invokevirtual 73, 3) := by decide +kernel
theorem dL_text_132 : decode cL_text 132 = .ok (.aload_n 0, 1) := by decide +kernel
theorem dL_text_133 : decode cL_text 133 = .ok (.getfield 66, 3) := by decide +kernel
theorem dL_text_136 : decode cL_text 136 = .ok (.iload_n 3, 1) := by decide +kernel
theorem dL_text_137 : decode cL_text 137 = .ok (.aaload, 1) := by decide +kernel
theorem dL_text_138 : decode cL_text 138 = .ok (.iconst 0, 1) := by decide +kernel
theorem dL_text_139 : decode cL_text 139 = .ok (.iaload, 1) := by decide +kernel
theorem dL_text_140 : decode cL_text 140 = .ok (.invokestatic 97, 3) := by decide +kernel
theorem dL_text_143 : decode cL_text 143 = .ok (.pop, 1) := by decide +kernel
theorem dL_text_144 : decode cL_text 144 = .ok (.iinc 3 1, 3) := by decide +kernel
theorem dL_text_147 : decode cL_text 147 = .ok (.goto (-41), 3) := by decide +kernel
theorem dL_text_150 : decode cL_text 150 = .ok (.iconst 0, 1) := by decide +kernel
theorem dL_text_151 : decode cL_text 151 = .ok (.istore_n 3, 1) := by decide +kernel
theorem dL_text_152 : decode cL_text 152 = .ok (.iload_n 3, 1) := by decide +kernel
theorem dL_text_153 : decode cL_text 153 = .ok (.iconst 3, 1) := by decide +kernel
theorem dL_text_154 : decode cL_text 154 = .ok (.if_icmp .ge 38, 3) := by decide +kernel
theorem dL_text_157 : decode cL_text 157 = .ok (.aload_n 2, 1) := by decide +kernel
theorem dL_text_158 : decode cL_text 158 = .ok (.ldc 101, 2) := by decide +kernel
theorem dL_text_160 : decode cL_text 160 = .ok (.invokevirtual 88, 3) := by decide +kernel
theorem dL_text_163 : decode cL_text 163 = .ok (.bipush 97, 2) := by decide +kernel
theorem dL_text_165 : decode cL_text 165 = .ok (.iload_n 3, 1) := by decide +kernel
theorem dL_text_166 : decode cL_text 166 = .ok (.iadd, 1) := by decide +kernel
theorem dL_text_167 : decode cL_text 167 = .ok (.i2c, 1) := by decide +kernel
theorem dL_text_168 : decode cL_text 168 = .ok (.invokevirtual 73, 3) := by decide +kernel
theorem dL_text_171 : decode cL_text 171 = .ok (.bipush 32, 2) := by decide +kernel
theorem dL_text_173 : decode cL_text 173 = .ok (.invokevirtual 73, 3) := by decide +kernel
theorem dL_text_176 : decode cL_text 176 = .ok (.aload_n 0, 1) := by decide +kernel
theorem dL_text_177 : decode cL_text 177 = .ok (.getfield 70, 3) := by decide +kernel
theorem dL_text_180 : decode cL_text 180 = .ok (.iload_n 3, 1) := by decide +kernel
theorem dL_text_181 : decode cL_text 181 = .ok (.iaload, 1) := by decide +kernel
theorem dL_text_182 : decode cL_text 182 = .ok (.invokevirtual 78, 3) := by decide +kernel
theorem dL_text_185 : decode cL_text 185 = .ok (.pop, 1) := by decide +kernel
theorem dL_text_186 : decode cL_text 186 = .ok (.iinc 3 1, 3) := by decide +kernel
theorem dL_text_189 : decode cL_text 189 = .ok (.goto (-37), 3) := by decide +kernel
theorem dL_text_192 : decode cL_text 192 = .ok (.iload_n 1, 1) := by decide +kernel
theorem dL_text_193 : decode cL_text 193 = .ok (.iconst 3, 1) := by decide +kernel
theorem dL_text_194 : decode cL_text 194 = .ok (.iand, 1) := by decide +kernel
theorem dL_text_195 : decode cL_text 195 = .ok (.iconst 3, 1) := by decide +kernel
theorem dL_text_196 : decode cL_text 196 = .ok (.irem, 1) := by decide +kernel
theorem dL_text_197 : decode cL_text 197 = .ok (.istore_n 3, 1) := by decide +kernel
theorem dL_text_198 : decode cL_text 198 = .ok (.iload_n 1, 1) := by decide +kernel
theorem dL_text_199 : decode cL_text 199 = .ok (.iconst 2, 1) := by decide +kernel
theorem dL_text_200 : decode cL_text 200 = .ok (.iushr, 1) := by decide +kernel
theorem dL_text_201 : decode cL_text 201 = .ok (.iconst 3, 1) := by decide +kernel
theorem dL_text_202 : decode cL_text 202 = .ok (.iand, 1) := by decide +kernel
theorem dL_text_203 : decode cL_text 203 = .ok (.iconst 3, 1) := by decide +kernel
theorem dL_text_204 : decode cL_text 204 = .ok (.irem, 1) := by decide +kernel
theorem dL_text_205 : decode cL_text 205 = .ok (.istore 4, 2) := by decide +kernel
theorem dL_text_207 : decode cL_text 207 = .ok (.iload_n 1, 1) := by decide +kernel
theorem dL_text_208 : decode cL_text 208 = .ok (.iconst 4, 1) := by decide +kernel
theorem dL_text_209 : decode cL_text 209 = .ok (.iushr, 1) := by decide +kernel
theorem dL_text_210 : decode cL_text 210 = .ok (.iconst 3, 1) := by decide +kernel
theorem dL_text_211 : decode cL_text 211 = .ok (.iand, 1) := by decide +kernel
theorem dL_text_212 : decode cL_text 212 = .ok (.iconst 3, 1) := by decide +kernel
theorem dL_text_213 : decode cL_text 213 = .ok (.irem, 1) := by decide +kernel
theorem dL_text_214 : decode cL_text 214 = .ok (.istore 5, 2) := by decide +kernel
theorem dL_text_216 : decode cL_text 216 = .ok (.iconst 1, 1) := by decide +kernel
theorem dL_text_217 : decode cL_text 217 = .ok (.iload_n 1, 1) := by decide +kernel
theorem dL_text_218 : decode cL_text 218 = .ok (.bipush 6, 2) := by decide +kernel
theorem dL_text_220 : decode cL_text 220 = .ok (.iushr, 1) := by decide +kernel
theorem dL_text_221 : decode cL_text 221 = .ok (.iconst 1, 1) := by decide +kernel
theorem dL_text_222 : decode cL_text 222 = .ok (.iand, 1) := by decide +kernel
theorem dL_text_223 : decode cL_text 223 = .ok (.iadd, 1) := by decide +kernel
theorem dL_text_224 : decode cL_text 224 = .ok (.istore 6, 2) := by decide +kernel
theorem dL_text_226 : decode cL_text 226 = .ok (.aload_n 2, 1) := by decide +kernel
theorem dL_text_227 : decode cL_text 227 = .ok (.ldc 103, 2) := by decide +kernel
theorem dL_text_229 : decode cL_text 229 = .ok (.invokevirtual 88, 3) := by decide +kernel
theorem dL_text_232 : decode cL_text 232 = .ok (.iload_n 3, 1) := by decide +kernel
theorem dL_text_233 : decode cL_text 233 = .ok (.invokevirtual 78, 3) := by decide +kernel
theorem dL_text_236 : decode cL_text 236 = .ok (.ldc 105, 2) := by decide +kernel
theorem dL_text_238 : decode cL_text 238 = .ok (.invokevirtual 88, 3) := by decide +kernel
theorem dL_text_241 : decode cL_text 241 = .ok (.iload 6, 2) := by decide +kernel
theorem dL_text_243 : decode cL_text 243 = .ok (.invokevirtual 78, 3) := by decide +kernel
theorem dL_text_246 : decode cL_text 246 = .ok (.ldc 107, 2) := by decide +kernel
theorem dL_text_248 : decode cL_text 248 = .ok (.invokevirtual 88, 3) := by decide +kernel
theorem dL_text_251 : decode cL_text 251 = .ok (.iload 4, 2) := by decide +kernel
theorem dL_text_253 : decode cL_text 253 = .ok (.invokevirtual 78, 3) := by decide +kernel
theorem dL_text_256 : decode cL_text 256 = .ok (.bipush 32, 2) := by decide +kernel
theorem dL_text_258 : decode cL_text 258 = .ok (.invokevirtual 73, 3) := by decide +kernel
theorem dL_text_261 : decode cL_text 261 = .ok (.iload 5, 2) := by decide +kernel
theorem dL_text_263 : decode cL_text 263 = .ok (.invokevirtual 78, 3) := by decide +kernel
theorem dL_text_266 : decode cL_text 266 = .ok (.ldc 109, 2) := by decide +kernel
theorem dL_text_268 : decode cL_text 268 = .ok (.invokevirtual 88, 3) := by decide +kernel
theorem dL_text_271 : decode cL_text 271 = .ok (.iload_n 3, 1) := by decide +kernel
theorem dL_text_272 : decode cL_text 272 = .ok (.invokevirtual 78, 3) := by decide +kernel
theorem dL_text_275 : decode cL_text 275 = .ok (.bipush 32, 2) := by decide +kernel
theorem dL_text_277 : decode cL_text 277 = .ok (.invokevirtual 73, 3) := by decide +kernel
theorem dL_text_280 : decode cL_text 280 = .ok (.iload 4, 2) := by decide +kernel
theorem dL_text_282 : decode cL_text 282 = .ok (.invokevirtual 78, 3) := by decide +kernel
theorem dL_text_285 : decode cL_text 285 = .ok (.bipush 32, 2) := by decide +kernel
theorem dL_text_287 : decode cL_text 287 = .ok (.invokevirtual 73, 3) := by decide +kernel
theorem dL_text_290 : decode cL_text 290 = .ok (.iload 5, 2) := by decide +kernel
theorem dL_text_292 : decode cL_text 292 = .ok (.invokevirtual 78, 3) := by decide +kernel
theorem dL_text_295 : decode cL_text 295 = .ok (.ldc 111, 2) := by decide +kernel
theorem dL_text_297 : decode cL_text 297 = .ok (.invokevirtual 88, 3) := by decide +kernel
theorem dL_text_300 : decode cL_text 300 = .ok (.iload_n 3, 1) := by decide +kernel
theorem dL_text_301 : decode cL_text 301 = .ok (.invokevirtual 78, 3) := by decide +kernel
theorem dL_text_304 : decode cL_text 304 = .ok (.ldc 113, 2) := by decide +kernel
theorem dL_text_306 : decode cL_text 306 = .ok (.invokevirtual 88, 3) := by decide +kernel
theorem dL_text_309 : decode cL_text 309 = .ok (.iload 5, 2) := by decide +kernel
theorem dL_text_311 : decode cL_text 311 = .ok (.invokevirtual 78, 3) := by decide +kernel
theorem dL_text_314 : decode cL_text 314 = .ok (.ldc 115, 2) := by decide +kernel
theorem dL_text_316 : decode cL_text 316 = .ok (.invokevirtual 88, 3) := by decide +kernel
theorem dL_text_319 : decode cL_text 319 = .ok (.pop, 1) := by decide +kernel
theorem dL_text_320 : decode cL_text 320 = .ok (.aload_n 0, 1) := by decide +kernel
theorem dL_text_321 : decode cL_text 321 = .ok (.iconst 1, 1) := by decide +kernel
theorem dL_text_322 : decode cL_text 322 = .ok (.iconst 2, 1) := by decide +kernel
theorem dL_text_323 : decode cL_text 323 = .ok (.iload 6, 2) := by decide +kernel
theorem dL_text_325 : decode cL_text 325 = .ok (.imul, 1) := by decide +kernel
theorem dL_text_326 : decode cL_text 326 = .ok (.iadd, 1) := by decide +kernel
theorem dL_text_327 : decode cL_text 327 = .ok (.bipush 8, 2) := by decide +kernel
theorem dL_text_329 : decode cL_text 329 = .ok (.iadd, 1) := by decide +kernel
theorem dL_text_330 : decode cL_text 330 = .ok (.newarray .int, 2) := by decide +kernel
theorem dL_text_332 : decode cL_text 332 = .ok (.putfield 117, 3) := by decide +kernel
theorem dL_text_335 : decode cL_text 335 = .ok (.iconst 0, 1) := by decide +kernel
theorem dL_text_336 : decode cL_text 336 = .ok (.istore 7, 2) := by decide +kernel
theorem dL_text_338 : decode cL_text 338 = .ok (.aload_n 0, 1) := by decide +kernel
theorem dL_text_339 : decode cL_text 339 = .ok (.getfield 117, 3) := by decide +kernel
theorem dL_text_342 : decode cL_text 342 = .ok (.iload 7, 2) := by decide +kernel
theorem dL_text_344 : decode cL_text 344 = .ok (.iinc 7 1, 3) := by decide +kernel
theorem dL_text_347 : decode cL_text 347 = .ok (.iload_n 3, 1) := by decide +kernel
theorem dL_text_348 : decode cL_text 348 = .ok (.iastore, 1) := by decide +kernel
theorem dL_text_349 : decode cL_text 349 = .ok (.iconst 0, 1) := by decide +kernel
theorem dL_text_350 : decode cL_text 350 = .ok (.istore 8, 2) := by decide +kernel
theorem dL_text_352 : decode cL_text 352 = .ok (.iload 8, 2) := by decide +kernel
theorem dL_text_354 : decode cL_text 354 = .ok (.iload 6, 2) := by decide +kernel
theorem dL_text_356 : decode cL_text 356 = .ok (.if_icmp .ge 33, 3) := by decide +kernel
theorem dL_text_359 : decode cL_text 359 = .ok (.aload_n 0, 1) := by decide +kernel
theorem dL_text_360 : decode cL_text 360 = .ok (.getfield 117, 3) := by decide +kernel
theorem dL_text_363 : decode cL_text 363 = .ok (.iload 7, 2) := by decide +kernel
theorem dL_text_365 : decode cL_text 365 = .ok (.iinc 7 1, 3) := by decide +kernel
theorem dL_text_368 : decode cL_text 368 = .ok (.iload 4, 2) := by decide +kernel
theorem dL_text_370 : decode cL_text 370 = .ok (.iastore, 1) := by decide +kernel
theorem dL_text_371 : decode cL_text 371 = .ok (.aload_n 0, 1) := by decide +kernel
theorem dL_text_372 : decode cL_text 372 = .ok (.getfield 117, 3) := by decide +kernel
theorem dL_text_375 : decode cL_text 375 = .ok (.iload 7, 2) := by decide +kernel
theorem dL_text_377 : decode cL_text 377 = .ok (.iinc 7 1, 3) := by decide +kernel
theorem dL_text_380 : decode cL_text 380 = .ok (.iload 5, 2) := by decide +kernel
theorem dL_text_382 : decode cL_text 382 = .ok (.iastore, 1) := by decide +kernel
theorem dL_text_383 : decode cL_text 383 = .ok (.iinc 8 1, 3) := by decide +kernel
theorem dL_text_386 : decode cL_text 386 = .ok (.goto (-34), 3) := by decide +kernel
theorem dL_text_389 : decode cL_text 389 = .ok (.bipush 8, 2) := by decide +kernel
theorem dL_text_391 : decode cL_text 391 = .ok (.newarray .int, 2) := by decide +kernel
theorem dL_text_393 : decode cL_text 393 = .ok (.dup, 1) := by decide +kernel
theorem dL_text_394 : decode cL_text 394 = .ok (.iconst 0, 1) := by decide +kernel
theorem dL_text_395 : decode cL_text 395 = .ok (.iload_n 3, 1) := by decide +kernel
theorem dL_text_396 : decode cL_text 396 = .ok (.iastore, 1) := by decide +kernel
theorem dL_text_397 : decode cL_text 397 = .ok (.dup, 1) := by decide +kernel
theorem dL_text_398 : decode cL_text 398 = .ok (.iconst 1, 1) := by decide +kernel
theorem dL_text_399 : decode cL_text 399 = .ok (.iload 4, 2) := by decide +kernel
theorem dL_text_401 : decode cL_text 401 = .ok (.iastore, 1) := by decide +kernel
theorem dL_text_402 : decode cL_text 402 = .ok (.dup, 1) := by decide +kernel
theorem dL_text_403 : decode cL_text 403 = .ok (.iconst 2, 1) := by decide +kernel
theorem dL_text_404 : decode cL_text 404 = .ok (.iload 5, 2) := by decide +kernel
theorem dL_text_406 : decode cL_text 406 = .ok (.iastore, 1) := by decide +kernel
theorem dL_text_407 : decode cL_text 407 = .ok (.dup, 1) := by decide +kernel
theorem dL_text_408 : decode cL_text 408 = .ok (.iconst 3, 1) := by decide +kernel
theorem dL_text_409 : decode cL_text 409 = .ok (.iload 4, 2) := by decide +kernel
theorem dL_text_411 : decode cL_text 411 = .ok (.iastore, 1) := by decide +kernel
theorem dL_text_412 : decode cL_text 412 = .ok (.dup, 1) := by decide +kernel
theorem dL_text_413 : decode cL_text 413 = .ok (.iconst 4, 1) := by decide +kernel
theorem dL_text_414 : decode cL_text 414 = .ok (.iload_n 3, 1) := by decide +kernel
theorem dL_text_415 : decode cL_text 415 = .ok (.iastore, 1) := by decide +kernel
theorem dL_text_416 : decode cL_text 416 = .ok (.dup, 1) := by decide +kernel
theorem dL_text_417 : decode cL_text 417 = .ok (.iconst 5, 1) := by decide +kernel
theorem dL_text_418 : decode cL_text 418 = .ok (.iload 5, 2) := by decide +kernel
theorem dL_text_420 : decode cL_text 420 = .ok (.iastore, 1) := by decide +kernel
theorem dL_text_421 : decode cL_text 421 = .ok (.dup, 1) := by decide +kernel
theorem dL_text_422 : decode cL_text 422 = .ok (.bipush 6, 2) := by decide +kernel
theorem dL_text_424 : decode cL_text 424 = .ok (.iload 5, 2) := by decide +kernel
theorem dL_text_426 : decode cL_text 426 = .ok (.iastore, 1) := by decide +kernel
theorem dL_text_427 : decode cL_text 427 = .ok (.dup, 1) := by decide +kernel
theorem dL_text_428 : decode cL_text 428 = .ok (.bipush 7, 2) := by decide +kernel
theorem dL_text_430 : decode cL_text 430 = .ok (.iload_n 3, 1) := by decide +kernel
theorem dL_text_431 : decode cL_text 431 = .ok (.iastore, 1) := by decide +kernel
theorem dL_text_432 : decode cL_text 432 = .ok (.astore 8, 2) := by decide +kernel
theorem dL_text_434 : decode cL_text 434 = .ok (.aload 8, 2) := by decide +kernel
theorem dL_text_436 : decode cL_text 436 = .ok (.astore 9, 2) := by decide +kernel
theorem dL_text_438 : decode cL_text 438 = .ok (.aload 9, 2) := by decide +kernel
theorem dL_text_440 : decode cL_text 440 = .ok (.arraylength, 1) := by decide +kernel
theorem dL_text_441 : decode cL_text 441 = .ok (.istore 10, 2) := by decide +kernel
theorem dL_text_443 : decode cL_text 443 = .ok (.iconst 0, 1) := by decide +kernel
theorem dL_text_444 : decode cL_text 444 = .ok (.istore 11, 2) := by decide +kernel
theorem dL_text_446 : decode cL_text 446 = .ok (.iload 11, 2) := by decide +kernel
theorem dL_text_448 : decode cL_text 448 = .ok (.iload 10, 2) := by decide +kernel
theorem dL_text_450 : decode cL_text 450 = .ok (.if_icmp .ge 28, 3) := by decide +kernel
theorem dL_text_453 : decode cL_text 453 = .ok (.aload 9, 2) := by decide +kernel
theorem dL_text_455 : decode cL_text 455 = .ok (.iload 11, 2) := by decide +kernel
theorem dL_text_457 : decode cL_text 457 = .ok (.iaload, 1) := by decide +kernel
theorem dL_text_458 : decode cL_text 458 = .ok (.istore 12, 2) := by decide +kernel
theorem dL_text_460 : decode cL_text 460 = .ok (.aload_n 0, 1) := by decide +kernel
theorem dL_text_461 : decode cL_text 461 = .ok (.getfield 117, 3) := by decide +kernel
theorem dL_text_464 : decode cL_text 464 = .ok (.iload 7, 2) := by decide +kernel
theorem dL_text_466 : decode cL_text 466 = .ok (.iinc 7 1, 3) := by decide +kernel
theorem dL_text_469 : decode cL_text 469 = .ok (.iload 12, 2) := by decide +kernel
theorem dL_text_471 : decode cL_text 471 = .ok (.iastore, 1) := by decide +kernel
theorem dL_text_472 : decode cL_text 472 = .ok (.iinc 11 1, 3) := by decide +kernel
theorem dL_text_475 : decode cL_text 475 = .ok (.goto (-29), 3) := by decide +kernel
theorem dL_text_478 : decode cL_text 478 = .ok (.iconst 1, 1) := by decide +kernel
theorem dL_text_479 : decode cL_text 479 = .ok (.iload_n 1, 1) := by decide +kernel
theorem dL_text_480 : decode cL_text 480 = .ok (.bipush 7, 2) := by decide +kernel
theorem dL_text_482 : decode cL_text 482 = .ok (.iushr, 1) := by decide +kernel
theorem dL_text_483 : decode cL_text 483 = .ok (.iconst 3, 1) := by decide +kernel
theorem dL_text_484 : decode cL_text 484 = .ok (.iand, 1) := by decide +kernel
theorem dL_text_485 : decode cL_text 485 = .ok (.iadd, 1) := by decide +kernel
theorem dL_text_486 : decode cL_text 486 = .ok (.istore 9, 2) := by decide +kernel
theorem dL_text_488 : decode cL_text 488 = .ok (.aload_n 0, 1) := by decide +kernel
theorem dL_text_489 : decode cL_text 489 = .ok (.invokevirtual 120, 3) := by decide +kernel
theorem dL_text_492 : decode cL_text 492 = .ok (.astore 10, 2) := by decide +kernel
theorem dL_text_494 : decode cL_text 494 = .ok (.aload 10, 2) := by decide +kernel
theorem dL_text_496 : decode cL_text 496 = .ok (.iload 9, 2) := by decide +kernel
theorem dL_text_498 : decode cL_text 498 = .ok (.invokevirtual 124, 3) := by decide +kernel
theorem dL_text_501 : decode cL_text 501 = .ok (.iload 9, 2) := by decide +kernel
theorem dL_text_503 : decode cL_text 503 = .ok (.if_icmp .ge 8, 3) := by decide +kernel
theorem dL_text_506 : decode cL_text 506 = .ok (.aload_n 2, 1) := by decide +kernel
theorem dL_text_507 : decode cL_text 507 = .ok (.invokevirtual 128, 3) := by decide +kernel
theorem dL_text_510 : decode cL_text 510 = .ok (.areturn, 1) := by decide +kernel
theorem dL_text_511 : decode cL_text 511 = .ok (.aload_n 0, 1) := by decide +kernel
theorem dL_text_512 : decode cL_text 512 = .ok (.iload 9, 2) := by decide +kernel
theorem dL_text_514 : decode cL_text 514 = .ok (.invokevirtual 124, 3) := by decide +kernel
theorem dL_text_517 : decode cL_text 517 = .ok (.istore 11, 2) := by decide +kernel
theorem dL_text_519 : decode cL_text 519 = .ok (.aload_n 2, 1) := by decide +kernel
theorem dL_text_520 : decode cL_text 520 = .ok (.ldc 132, 2) := by decide +kernel
theorem dL_text_522 : decode cL_text 522 = .ok (.invokevirtual 88, 3) := by decide +kernel
theorem dL_text_525 : decode cL_text 525 = .ok (.iload 9, 2) := by decide +kernel
theorem dL_text_527 : decode cL_text 527 = .ok (.invokevirtual 78, 3) := by decide +kernel
theorem dL_text_530 : decode cL_text 530 = .ok (.pop, 1) := by decide +kernel
theorem dL_text_531 : decode cL_text 531 = .ok (.iload_n 1, 1) := by decide +kernel
theorem dL_text_532 : decode cL_text 532 = .ok (.bipush 9, 2) := by decide +kernel
theorem dL_text_534 : decode cL_text 534 = .ok (.iushr, 1) := by decide +kernel
theorem dL_text_535 : decode cL_text 535 = .ok (.iconst 1, 1) := by decide +kernel
theorem dL_text_536 : decode cL_text 536 = .ok (.iand, 1) := by decide +kernel
theorem dL_text_537 : decode cL_text 537 = .ok (.ifCond .ne 15, 3) := by decide +kernel
theorem dL_text_540 : decode cL_text 540 = .ok (.aload_n 2, 1) := by decide +kernel
theorem dL_text_541 : decode cL_text 541 = .ok (.ldc 134, 2) := by decide +kernel
theorem dL_text_543 : decode cL_text 543 = .ok (.invokevirtual 88, 3) := by decide +kernel
theorem dL_text_546 : decode cL_text 546 = .ok (.pop, 1) := by decide +kernel
theorem dL_text_547 : decode cL_text 547 = .ok (.aload_n 0, 1) := by decide +kernel
theorem dL_text_548 : decode cL_text 548 = .ok (.iconst 1, 1) := by decide +kernel
theorem dL_text_549 : decode cL_text 549 = .ok (.invokevirtual 136, 3) := by decide +kernel
theorem dL_text_552 : decode cL_text 552 = .ok (.aload_n 2, 1) := by decide +kernel
theorem dL_text_553 : decode cL_text 553 = .ok (.invokevirtual 128, 3) := by decide +kernel
theorem dL_text_556 : decode cL_text 556 = .ok (.areturn, 1) := by decide +kernel
theorem dL_told_0 : decode cL_told 0 = .ok (.iconst 0, 1) := by decide +kernel
theorem dL_told_1 : decode cL_told 1 = .ok (.istore_n 3, 1) := by decide +kernel
theorem dL_told_2 : decode cL_told 2 = .ok (.iload_n 3, 1) := by decide +kernel
theorem dL_told_3 : decode cL_told 3 = .ok (.aload_n 2, 1) := by decide +kernel
theorem dL_told_4 : decode cL_told 4 = .ok (.invokeinterface 140 1, 5) := by decide +kernel
theorem dL_told_9 : decode cL_told 9 = .ok (.if_icmp .ge 21, 3) := by decide +kernel
theorem dL_told_12 : decode cL_told 12 = .ok (.aload_n 0, 1) := by decide +kernel
theorem dL_told_13 : decode cL_told 13 = .ok (.aload_n 1, 1) := by decide +kernel
theorem dL_told_14 : decode cL_told 14 = .ok (.aload_n 2, 1) := by decide +kernel
theorem dL_told_15 : decode cL_told 15 = .ok (.iload_n 3, 1) := by decide +kernel
theorem dL_told_16 : decode cL_told 16 = .ok (.invokeinterface 146 2, 5) := by decide +kernel
theorem dL_told_21 : decode cL_told 21 = .ok (.invokestatic 21, 3) := by decide +kernel
theorem dL_told_24 : decode cL_told 24 = .ok (.iinc 3 1, 3) := by decide +kernel
theorem dL_told_27 : decode cL_told 27 = .ok (.goto (-25), 3) := by decide +kernel
theorem dL_told_30 : decode cL_told 30 = .ok (.aload_n 0, 1) := by decide +kernel
theorem dL_told_31 : decode cL_told 31 = .ok (.aload_n 1, 1) := by decide +kernel
theorem dL_told_32 : decode cL_told 32 = .ok (.invokestatic 150, 3) := by decide +kernel
theorem dL_told_35 : decode cL_told 35 = .ok (.ireturn, 1) := by decide +kernel
