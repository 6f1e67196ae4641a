/-! the law, decoded -/
theorem d_0 : decode code 0 = .ok (.new 8, 3) := by decide +kernel
theorem d_3 : decode code 3 = .ok (.dup, 1) := by decide +kernel
theorem d_4 : decode code 4 = .ok (.invokespecial 73, 3) := by decide +kernel
theorem d_7 : decode code 7 = .ok (.astore_n 1, 1) := by decide +kernel
theorem d_8 : decode code 8 = .ok (.new 74, 3) := by decide +kernel
theorem d_11 : decode code 11 = .ok (.dup, 1) := by decide +kernel
theorem d_12 : decode code 12 = .ok (.invokespecial 76, 3) := by decide +kernel
theorem d_15 : decode code 15 = .ok (.astore_n 2, 1) := by decide +kernel
theorem d_16 : decode code 16 = .ok (.iconst 1, 1) := by decide +kernel
theorem d_17 : decode code 17 = .ok (.newarray .long, 2) := by decide +kernel
theorem d_19 : decode code 19 = .ok (.astore_n 3, 1) := by decide +kernel
theorem d_20 : decode code 20 = .ok (.iconst 0, 1) := by decide +kernel
theorem d_21 : decode code 21 = .ok (.istore 4, 2) := by decide +kernel
theorem d_23 : decode code 23 = .ok (.iload 4, 2) := by decide +kernel
theorem d_25 : decode code 25 = .ok (.aload_n 0, 1) := by decide +kernel
theorem d_26 : decode code 26 = .ok (.arraylength, 1) := by decide +kernel
theorem d_27 : decode code 27 = .ok (.iconst 4, 1) := by decide +kernel
theorem d_28 : decode code 28 = .ok (.isub, 1) := by decide +kernel
theorem d_29 : decode code 29 = .ok (.if_icmp .gt 1374, 3) := by decide +kernel
theorem d_32 : decode code 32 = .ok (.aload_n 0, 1) := by decide +kernel
theorem d_33 : decode code 33 = .ok (.iload 4, 2) := by decide +kernel
theorem d_35 : decode code 35 = .ok (.iaload, 1) := by decide +kernel
theorem d_36 : decode code 36 = .ok (.bipush 31, 2) := by decide +kernel
theorem d_38 : decode code 38 = .ok (.iand, 1) := by decide +kernel
theorem d_39 : decode code 39 = .ok (.tableswitch 1358 0 20 #[97, 165, 178, 191, 259, 315, 390, 450, 498, 546, 594, 681, 768, 855, 942, 1029, 1097, 1153, 1221, 1246, 1302], 97) := by decide +kernel
theorem d_136 : decode code 136 = .ok (.aload_n 1, 1) := by decide +kernel
theorem d_137 : decode code 137 = .ok (.aload_n 0, 1) := by decide +kernel
theorem d_138 : decode code 138 = .ok (.iload 4, 2) := by decide +kernel
theorem d_140 : decode code 140 = .ok (.iconst 1, 1) := by decide +kernel
theorem d_141 : decode code 141 = .ok (.iadd, 1) := by decide +kernel
theorem d_142 : decode code 142 = .ok (.iaload, 1) := by decide +kernel
theorem d_143 : decode code 143 = .ok (.aload_n 0, 1) := by decide +kernel
theorem d_144 : decode code 144 = .ok (.iload 4, 2) := by decide +kernel
theorem d_146 : decode code 146 = .ok (.iconst 2, 1) := by decide +kernel
theorem d_147 : decode code 147 = .ok (.iadd, 1) := by decide +kernel
theorem d_148 : decode code 148 = .ok (.iaload, 1) := by decide +kernel
theorem d_149 : decode code 149 = .ok (.aload_n 3, 1) := by decide +kernel
theorem d_150 : decode code 150 = .ok (.invokestatic 77, 3) := by decide +kernel
theorem d_153 : decode code 153 = .ok (.istore 5, 2) := by decide +kernel
theorem d_155 : decode code 155 = .ok (.aload_n 2, 1) := by decide +kernel
theorem d_156 : decode code 156 = .ok (.aload_n 0, 1) := by decide +kernel
theorem d_157 : decode code 157 = .ok (.iload 4, 2) := by decide +kernel
theorem d_159 : decode code 159 = .ok (.iconst 1, 1) := by decide +kernel
theorem d_160 : decode code 160 = .ok (.iadd, 1) := by decide +kernel
theorem d_161 : decode code 161 = .ok (.iaload, 1) := by decide +kernel
theorem d_162 : decode code 162 = .ok (.aload_n 0, 1) := by decide +kernel
theorem d_163 : decode code 163 = .ok (.iload 4, 2) := by decide +kernel
theorem d_165 : decode code 165 = .ok (.iconst 2, 1) := by decide +kernel
theorem d_166 : decode code 166 = .ok (.iadd, 1) := by decide +kernel
theorem d_167 : decode code 167 = .ok (.iaload, 1) := by decide +kernel
theorem d_168 : decode code 168 = .ok (.invokevirtual 82, 3) := by decide +kernel
theorem d_171 : decode code 171 = .ok (.istore 6, 2) := by decide +kernel
theorem d_173 : decode code 173 = .ok (.aload_n 2, 1) := by decide +kernel
theorem d_174 : decode code 174 = .ok (.invokevirtual 83, 3) := by decide +kernel
theorem d_177 : decode code 177 = .ok (.iload 5, 2) := by decide +kernel
theorem d_179 : decode code 179 = .ok (.if_icmp .eq 5, 3) := by decide +kernel
theorem d_184 : decode code 184 = .ok (.iload 5, 2) := by decide +kernel
theorem d_186 : decode code 186 = .ok (.ifCond .ne 15, 3) := by decide +kernel
theorem d_189 : decode code 189 = .ok (.aload_n 3, 1) := by decide +kernel
theorem d_190 : decode code 190 = .ok (.iconst 0, 1) := by decide +kernel
theorem d_191 : decode code 191 = .ok (.laload, 1) := by decide +kernel
theorem d_192 : decode code 192 = .ok (.iload 6, 2) := by decide +kernel
theorem d_194 : decode code 194 = .ok (.i2l, 1) := by decide +kernel
theorem d_195 : decode code 195 = .ok (.lcmp, 1) := by decide +kernel
theorem d_196 : decode code 196 = .ok (.ifCond .eq 5, 3) := by decide +kernel
theorem d_201 : decode code 201 = .ok (.goto 1196, 3) := by decide +kernel
theorem d_204 : decode code 204 = .ok (.aload_n 1, 1) := by decide +kernel
theorem d_205 : decode code 205 = .ok (.invokevirtual 87, 3) := by decide +kernel
theorem d_208 : decode code 208 = .ok (.aload_n 2, 1) := by decide +kernel
theorem d_209 : decode code 209 = .ok (.invokevirtual 90, 3) := by decide +kernel
theorem d_212 : decode code 212 = .ok (.if_icmp .eq 1185, 3) := by decide +kernel
theorem d_217 : decode code 217 = .ok (.aload_n 1, 1) := by decide +kernel
theorem d_218 : decode code 218 = .ok (.invokevirtual 91, 3) := by decide +kernel
theorem d_221 : decode code 221 = .ok (.aload_n 2, 1) := by decide +kernel
theorem d_222 : decode code 222 = .ok (.invokevirtual 94, 3) := by decide +kernel
theorem d_225 : decode code 225 = .ok (.if_icmp .eq 1172, 3) := by decide +kernel
theorem d_230 : decode code 230 = .ok (.aload_n 1, 1) := by decide +kernel
theorem d_231 : decode code 231 = .ok (.aload_n 0, 1) := by decide +kernel
theorem d_232 : decode code 232 = .ok (.iload 4, 2) := by decide +kernel
theorem d_234 : decode code 234 = .ok (.iconst 1, 1) := by decide +kernel
theorem d_235 : decode code 235 = .ok (.iadd, 1) := by decide +kernel
theorem d_236 : decode code 236 = .ok (.iaload, 1) := by decide +kernel
theorem d_237 : decode code 237 = .ok (.aload_n 0, 1) := by decide +kernel
theorem d_238 : decode code 238 = .ok (.iload 4, 2) := by decide +kernel
theorem d_240 : decode code 240 = .ok (.iconst 2, 1) := by decide +kernel
theorem d_241 : decode code 241 = .ok (.iadd, 1) := by decide +kernel
theorem d_242 : decode code 242 = .ok (.iaload, 1) := by decide +kernel
theorem d_243 : decode code 243 = .ok (.aload_n 3, 1) := by decide +kernel
theorem d_244 : decode code 244 = .ok (.invokestatic 95, 3) := by decide +kernel
theorem d_247 : decode code 247 = .ok (.istore 5, 2) := by decide +kernel
theorem d_249 : decode code 249 = .ok (.aload_n 2, 1) := by decide +kernel
theorem d_250 : decode code 250 = .ok (.aload_n 0, 1) := by decide +kernel
theorem d_251 : decode code 251 = .ok (.iload 4, 2) := by decide +kernel
theorem d_253 : decode code 253 = .ok (.iconst 1, 1) := by decide +kernel
theorem d_254 : decode code 254 = .ok (.iadd, 1) := by decide +kernel
theorem d_255 : decode code 255 = .ok (.iaload, 1) := by decide +kernel
theorem d_256 : decode code 256 = .ok (.aload_n 0, 1) := by decide +kernel
theorem d_257 : decode code 257 = .ok (.iload 4, 2) := by decide +kernel
theorem d_259 : decode code 259 = .ok (.iconst 2, 1) := by decide +kernel
theorem d_260 : decode code 260 = .ok (.iadd, 1) := by decide +kernel
theorem d_261 : decode code 261 = .ok (.iaload, 1) := by decide +kernel
theorem d_262 : decode code 262 = .ok (.invokevirtual 97, 3) := by decide +kernel
theorem d_265 : decode code 265 = .ok (.istore 6, 2) := by decide +kernel
theorem d_267 : decode code 267 = .ok (.aload_n 2, 1) := by decide +kernel
theorem d_268 : decode code 268 = .ok (.invokevirtual 83, 3) := by decide +kernel
theorem d_271 : decode code 271 = .ok (.iload 5, 2) := by decide +kernel
theorem d_273 : decode code 273 = .ok (.if_icmp .eq 5, 3) := by decide +kernel
theorem d_278 : decode code 278 = .ok (.iload 5, 2) := by decide +kernel
theorem d_280 : decode code 280 = .ok (.ifCond .ne 15, 3) := by decide +kernel
theorem d_283 : decode code 283 = .ok (.aload_n 3, 1) := by decide +kernel
theorem d_284 : decode code 284 = .ok (.iconst 0, 1) := by decide +kernel
theorem d_285 : decode code 285 = .ok (.laload, 1) := by decide +kernel
theorem d_286 : decode code 286 = .ok (.iload 6, 2) := by decide +kernel
theorem d_288 : decode code 288 = .ok (.i2l, 1) := by decide +kernel
theorem d_289 : decode code 289 = .ok (.lcmp, 1) := by decide +kernel
theorem d_290 : decode code 290 = .ok (.ifCond .eq 5, 3) := by decide +kernel
theorem d_295 : decode code 295 = .ok (.goto 1102, 3) := by decide +kernel
theorem d_298 : decode code 298 = .ok (.aload_n 1, 1) := by decide +kernel
theorem d_299 : decode code 299 = .ok (.aload_n 0, 1) := by decide +kernel
theorem d_300 : decode code 300 = .ok (.iload 4, 2) := by decide +kernel
theorem d_302 : decode code 302 = .ok (.iconst 1, 1) := by decide +kernel
theorem d_303 : decode code 303 = .ok (.iadd, 1) := by decide +kernel
theorem d_304 : decode code 304 = .ok (.iaload, 1) := by decide +kernel
theorem d_305 : decode code 305 = .ok (.aload_n 3, 1) := by decide +kernel
theorem d_306 : decode code 306 = .ok (.invokestatic 98, 3) := by decide +kernel
theorem d_309 : decode code 309 = .ok (.istore 5, 2) := by decide +kernel
theorem d_311 : decode code 311 = .ok (.aload_n 2, 1) := by decide +kernel
theorem d_312 : decode code 312 = .ok (.aload_n 0, 1) := by decide +kernel
theorem d_313 : decode code 313 = .ok (.iload 4, 2) := by decide +kernel
theorem d_315 : decode code 315 = .ok (.iconst 1, 1) := by decide +kernel
theorem d_316 : decode code 316 = .ok (.iadd, 1) := by decide +kernel
theorem d_317 : decode code 317 = .ok (.iaload, 1) := by decide +kernel
theorem d_318 : decode code 318 = .ok (.invokevirtual 101, 3) := by decide +kernel
theorem d_321 : decode code 321 = .ok (.istore 6, 2) := by decide +kernel
theorem d_323 : decode code 323 = .ok (.aload_n 2, 1) := by decide +kernel
theorem d_324 : decode code 324 = .ok (.invokevirtual 83, 3) := by decide +kernel
theorem d_327 : decode code 327 = .ok (.iload 5, 2) := by decide +kernel
theorem d_329 : decode code 329 = .ok (.if_icmp .eq 5, 3) := by decide +kernel
theorem d_334 : decode code 334 = .ok (.iload 5, 2) := by decide +kernel
theorem d_336 : decode code 336 = .ok (.ifCond .ne 15, 3) := by decide +kernel
theorem d_339 : decode code 339 = .ok (.aload_n 3, 1) := by decide +kernel
theorem d_340 : decode code 340 = .ok (.iconst 0, 1) := by decide +kernel
theorem d_341 : decode code 341 = .ok (.laload, 1) := by decide +kernel
theorem d_342 : decode code 342 = .ok (.iload 6, 2) := by decide +kernel
theorem d_344 : decode code 344 = .ok (.i2l, 1) := by decide +kernel
theorem d_345 : decode code 345 = .ok (.lcmp, 1) := by decide +kernel
theorem d_346 : decode code 346 = .ok (.ifCond .eq 5, 3) := by decide +kernel
theorem d_351 : decode code 351 = .ok (.goto 1046, 3) := by decide +kernel
theorem d_354 : decode code 354 = .ok (.aload_n 1, 1) := by decide +kernel
theorem d_355 : decode code 355 = .ok (.aload_n 0, 1) := by decide +kernel
theorem d_356 : decode code 356 = .ok (.iload 4, 2) := by decide +kernel
theorem d_358 : decode code 358 = .ok (.iconst 1, 1) := by decide +kernel
theorem d_359 : decode code 359 = .ok (.iadd, 1) := by decide +kernel
theorem d_360 : decode code 360 = .ok (.iaload, 1) := by decide +kernel
theorem d_361 : decode code 361 = .ok (.aload_n 0, 1) := by decide +kernel
theorem d_362 : decode code 362 = .ok (.iload 4, 2) := by decide +kernel
theorem d_364 : decode code 364 = .ok (.iconst 2, 1) := by decide +kernel
theorem d_365 : decode code 365 = .ok (.iadd, 1) := by decide +kernel
theorem d_366 : decode code 366 = .ok (.iaload, 1) := by decide +kernel
theorem d_367 : decode code 367 = .ok (.aload_n 3, 1) := by decide +kernel
theorem d_368 : decode code 368 = .ok (.invokestatic 102, 3) := by decide +kernel
theorem d_371 : decode code 371 = .ok (.istore 5, 2) := by decide +kernel
theorem d_373 : decode code 373 = .ok (.aload_n 2, 1) := by decide +kernel
theorem d_374 : decode code 374 = .ok (.aload_n 0, 1) := by decide +kernel
theorem d_375 : decode code 375 = .ok (.iload 4, 2) := by decide +kernel
theorem d_377 : decode code 377 = .ok (.iconst 1, 1) := by decide +kernel
theorem d_378 : decode code 378 = .ok (.iadd, 1) := by decide +kernel
theorem d_379 : decode code 379 = .ok (.iaload, 1) := by decide +kernel
theorem d_380 : decode code 380 = .ok (.aload_n 0, 1) := by decide +kernel
theorem d_381 : decode code 381 = .ok (.iload 4, 2) := by decide +kernel
theorem d_383 : decode code 383 = .ok (.iconst 2, 1) := by decide +kernel
theorem d_384 : decode code 384 = .ok (.iadd, 1) := by decide +kernel
theorem d_385 : decode code 385 = .ok (.iaload, 1) := by decide +kernel
theorem d_386 : decode code 386 = .ok (.invokevirtual 104, 3) := by decide +kernel
theorem d_389 : decode code 389 = .ok (.istore 6, 2) := by decide +kernel
theorem d_391 : decode code 391 = .ok (.aload_n 2, 1) := by decide +kernel
theorem d_392 : decode code 392 = .ok (.invokevirtual 83, 3) := by decide +kernel
theorem d_395 : decode code 395 = .ok (.iload 5, 2) := by decide +kernel
theorem d_397 : decode code 397 = .ok (.if_icmp .eq 5, 3) := by decide +kernel
theorem d_402 : decode code 402 = .ok (.iload 5, 2) := by decide +kernel
theorem d_404 : decode code 404 = .ok (.ifCond .ne 22, 3) := by decide +kernel
theorem d_407 : decode code 407 = .ok (.aload_n 3, 1) := by decide +kernel
theorem d_408 : decode code 408 = .ok (.iconst 0, 1) := by decide +kernel
theorem d_409 : decode code 409 = .ok (.laload, 1) := by decide +kernel
theorem d_410 : decode code 410 = .ok (.iload 6, 2) := by decide +kernel
theorem d_412 : decode code 412 = .ok (.ifCond .eq 7, 3) := by decide +kernel
theorem d_415 : decode code 415 = .ok (.lconst 1, 1) := by decide +kernel
theorem d_416 : decode code 416 = .ok (.goto 4, 3) := by decide +kernel
theorem d_419 : decode code 419 = .ok (.lconst 0, 1) := by decide +kernel
theorem d_420 : decode code 420 = .ok (.lcmp, 1) := by decide +kernel
theorem d_421 : decode code 421 = .ok (.ifCond .eq 5, 3) := by decide +kernel
theorem d_426 : decode code 426 = .ok (.goto 971, 3) := by decide +kernel
theorem d_429 : decode code 429 = .ok (.aload_n 1, 1) := by decide +kernel
theorem d_430 : decode code 430 = .ok (.aload_n 0, 1) := by decide +kernel
theorem d_431 : decode code 431 = .ok (.iload 4, 2) := by decide +kernel
theorem d_433 : decode code 433 = .ok (.iconst 1, 1) := by decide +kernel
theorem d_434 : decode code 434 = .ok (.iadd, 1) := by decide +kernel
theorem d_435 : decode code 435 = .ok (.iaload, 1) := by decide +kernel
theorem d_436 : decode code 436 = .ok (.aload_n 0, 1) := by decide +kernel
theorem d_437 : decode code 437 = .ok (.iload 4, 2) := by decide +kernel
theorem d_439 : decode code 439 = .ok (.iconst 2, 1) := by decide +kernel
theorem d_440 : decode code 440 = .ok (.iadd, 1) := by decide +kernel
theorem d_441 : decode code 441 = .ok (.iaload, 1) := by decide +kernel
theorem d_442 : decode code 442 = .ok (.aload_n 0, 1) := by decide +kernel
theorem d_443 : decode code 443 = .ok (.iload 4, 2) := by decide +kernel
theorem d_445 : decode code 445 = .ok (.iconst 3, 1) := by decide +kernel
theorem d_446 : decode code 446 = .ok (.iadd, 1) := by decide +kernel
theorem d_447 : decode code 447 = .ok (.iaload, 1) := by decide +kernel
theorem d_448 : decode code 448 = .ok (.invokestatic 105, 3) := by decide +kernel
theorem d_451 : decode code 451 = .ok (.istore 5, 2) := by decide +kernel
theorem d_453 : decode code 453 = .ok (.aload_n 2, 1) := by decide +kernel
theorem d_454 : decode code 454 = .ok (.aload_n 0, 1) := by decide +kernel
theorem d_455 : decode code 455 = .ok (.iload 4, 2) := by decide +kernel
theorem d_457 : decode code 457 = .ok (.iconst 1, 1) := by decide +kernel
theorem d_458 : decode code 458 = .ok (.iadd, 1) := by decide +kernel
theorem d_459 : decode code 459 = .ok (.iaload, 1) := by decide +kernel
theorem d_460 : decode code 460 = .ok (.aload_n 0, 1) := by decide +kernel
theorem d_461 : decode code 461 = .ok (.iload 4, 2) := by decide +kernel
theorem d_463 : decode code 463 = .ok (.iconst 2, 1) := by decide +kernel
theorem d_464 : decode code 464 = .ok (.iadd, 1) := by decide +kernel
theorem d_465 : decode code 465 = .ok (.iaload, 1) := by decide +kernel
theorem d_466 : decode code 466 = .ok (.aload_n 0, 1) := by decide +kernel
theorem d_467 : decode code 467 = .ok (.iload 4, 2) := by decide +kernel
theorem d_469 : decode code 469 = .ok (.iconst 3, 1) := by decide +kernel
theorem d_470 : decode code 470 = .ok (.iadd, 1) := by decide +kernel
theorem d_471 : decode code 471 = .ok (.iaload, 1) := by decide +kernel
theorem d_472 : decode code 472 = .ok (.invokevirtual 108, 3) := by decide +kernel
theorem d_475 : decode code 475 = .ok (.aload_n 2, 1) := by decide +kernel
theorem d_476 : decode code 476 = .ok (.invokevirtual 83, 3) := by decide +kernel
theorem d_479 : decode code 479 = .ok (.iload 5, 2) := by decide +kernel
theorem d_481 : decode code 481 = .ok (.if_icmp .eq 5, 3) := by decide +kernel
theorem d_486 : decode code 486 = .ok (.goto 911, 3) := by decide +kernel
theorem d_489 : decode code 489 = .ok (.aload_n 1, 1) := by decide +kernel
theorem d_490 : decode code 490 = .ok (.aload_n 0, 1) := by decide +kernel
theorem d_491 : decode code 491 = .ok (.iload 4, 2) := by decide +kernel
theorem d_493 : decode code 493 = .ok (.iconst 1, 1) := by decide +kernel
theorem d_494 : decode code 494 = .ok (.iadd, 1) := by decide +kernel
theorem d_495 : decode code 495 = .ok (.iaload, 1) := by decide +kernel
theorem d_496 : decode code 496 = .ok (.aload_n 0, 1) := by decide +kernel
theorem d_497 : decode code 497 = .ok (.iload 4, 2) := by decide +kernel
theorem d_499 : decode code 499 = .ok (.iconst 2, 1) := by decide +kernel
theorem d_500 : decode code 500 = .ok (.iadd, 1) := by decide +kernel
theorem d_501 : decode code 501 = .ok (.iaload, 1) := by decide +kernel
theorem d_502 : decode code 502 = .ok (.invokestatic 109, 3) := by decide +kernel
theorem d_505 : decode code 505 = .ok (.istore 5, 2) := by decide +kernel
theorem d_507 : decode code 507 = .ok (.aload_n 2, 1) := by decide +kernel
theorem d_508 : decode code 508 = .ok (.aload_n 0, 1) := by decide +kernel
theorem d_509 : decode code 509 = .ok (.iload 4, 2) := by decide +kernel
theorem d_511 : decode code 511 = .ok (.iconst 1, 1) := by decide +kernel
theorem d_512 : decode code 512 = .ok (.iadd, 1) := by decide +kernel
theorem d_513 : decode code 513 = .ok (.iaload, 1) := by decide +kernel
theorem d_514 : decode code 514 = .ok (.aload_n 0, 1) := by decide +kernel
theorem d_515 : decode code 515 = .ok (.iload 4, 2) := by decide +kernel
theorem d_517 : decode code 517 = .ok (.iconst 2, 1) := by decide +kernel
theorem d_518 : decode code 518 = .ok (.iadd, 1) := by decide +kernel
theorem d_519 : decode code 519 = .ok (.iaload, 1) := by decide +kernel
theorem d_520 : decode code 520 = .ok (.invokevirtual 112, 3) := by decide +kernel
theorem d_523 : decode code 523 = .ok (.aload_n 2, 1) := by decide +kernel
theorem d_524 : decode code 524 = .ok (.invokevirtual 83, 3) := by decide +kernel
theorem d_527 : decode code 527 = .ok (.iload 5, 2) := by decide +kernel
theorem d_529 : decode code 529 = .ok (.if_icmp .eq 5, 3) := by decide +kernel
