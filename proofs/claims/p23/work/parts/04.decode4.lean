theorem dL_isCycle_174 : decode cL_isCycle 174 = .ok (.iconst 1, 1) := by decide +kernel
theorem dL_isCycle_175 : decode cL_isCycle 175 = .ok (.invokevirtual 41, 3) := by decide +kernel
theorem dL_isCycle_178 : decode cL_isCycle 178 = .ok (.istore 15, 2) := by decide +kernel
theorem dL_isCycle_180 : decode cL_isCycle 180 = .ok (.iload_n 3, 1) := by decide +kernel
theorem dL_isCycle_181 : decode cL_isCycle 181 = .ok (.iconst 1, 1) := by decide +kernel
theorem dL_isCycle_182 : decode cL_isCycle 182 = .ok (.if_icmp .ne 10, 3) := by decide +kernel
theorem dL_isCycle_185 : decode cL_isCycle 185 = .ok (.iconst 1, 1) := by decide +kernel
theorem dL_isCycle_186 : decode cL_isCycle 186 = .ok (.iload 12, 2) := by decide +kernel
theorem dL_isCycle_188 : decode cL_isCycle 188 = .ok (.iadd, 1) := by decide +kernel
theorem dL_isCycle_189 : decode cL_isCycle 189 = .ok (.goto 4, 3) := by decide +kernel
theorem dL_isCycle_192 : decode cL_isCycle 192 = .ok (.iconst 1, 1) := by decide +kernel
theorem dL_isCycle_193 : decode cL_isCycle 193 = .ok (.istore 16, 2) := by decide +kernel
theorem dL_isCycle_195 : decode cL_isCycle 195 = .ok (.iconst 0, 1) := by decide +kernel
theorem dL_isCycle_196 : decode cL_isCycle 196 = .ok (.istore 17, 2) := by decide +kernel
theorem dL_isCycle_198 : decode cL_isCycle 198 = .ok (.iconst 0, 1) := by decide +kernel
theorem dL_isCycle_199 : decode cL_isCycle 199 = .ok (.istore 18, 2) := by decide +kernel
theorem dL_isCycle_201 : decode cL_isCycle 201 = .ok (.iconst 0, 1) := by decide +kernel
theorem dL_isCycle_202 : decode cL_isCycle 202 = .ok (.istore 19, 2) := by decide +kernel
theorem dL_isCycle_204 : decode cL_isCycle 204 = .ok (.iload 19, 2) := by decide +kernel
theorem dL_isCycle_206 : decode cL_isCycle 206 = .ok (.aload_n 0, 1) := by decide +kernel
theorem dL_isCycle_207 : decode cL_isCycle 207 = .ok (.bipush 12, 2) := by decide +kernel
theorem dL_isCycle_209 : decode cL_isCycle 209 = .ok (.invokevirtual 9, 3) := by decide +kernel
theorem dL_isCycle_212 : decode cL_isCycle 212 = .ok (.if_icmp .ge 46, 3) := by decide +kernel
theorem dL_isCycle_215 : decode cL_isCycle 215 = .ok (.iload 17, 2) := by decide +kernel
theorem dL_isCycle_217 : decode cL_isCycle 217 = .ok (.iload_n 2, 1) := by decide +kernel
theorem dL_isCycle_218 : decode cL_isCycle 218 = .ok (.iload 19, 2) := by decide +kernel
theorem dL_isCycle_220 : decode cL_isCycle 220 = .ok (.ishr, 1) := by decide +kernel
theorem dL_isCycle_221 : decode cL_isCycle 221 = .ok (.iconst 1, 1) := by decide +kernel
theorem dL_isCycle_222 : decode cL_isCycle 222 = .ok (.iand, 1) := by decide +kernel
theorem dL_isCycle_223 : decode cL_isCycle 223 = .ok (.iconst 1, 1) := by decide +kernel
theorem dL_isCycle_224 : decode cL_isCycle 224 = .ok (.if_icmp .ne 13, 3) := by decide +kernel
theorem dL_isCycle_227 : decode cL_isCycle 227 = .ok (.aload_n 0, 1) := by decide +kernel
theorem dL_isCycle_228 : decode cL_isCycle 228 = .ok (.iload 19, 2) := by decide +kernel
theorem dL_isCycle_230 : decode cL_isCycle 230 = .ok (.iconst 3, 1) := by decide +kernel
theorem dL_isCycle_231 : decode cL_isCycle 231 = .ok (.invokevirtual 24, 3) := by decide +kernel
theorem dL_isCycle_234 : decode cL_isCycle 234 = .ok (.goto 4, 3) := by decide +kernel
theorem dL_isCycle_237 : decode cL_isCycle 237 = .ok (.iconst 0, 1) := by decide +kernel
theorem dL_isCycle_238 : decode cL_isCycle 238 = .ok (.iadd, 1) := by decide +kernel
theorem dL_isCycle_239 : decode cL_isCycle 239 = .ok (.istore 17, 2) := by decide +kernel
theorem dL_isCycle_241 : decode cL_isCycle 241 = .ok (.iload 18, 2) := by decide +kernel
theorem dL_isCycle_243 : decode cL_isCycle 243 = .ok (.iload_n 2, 1) := by decide +kernel
theorem dL_isCycle_244 : decode cL_isCycle 244 = .ok (.iload 19, 2) := by decide +kernel
theorem dL_isCycle_246 : decode cL_isCycle 246 = .ok (.ishr, 1) := by decide +kernel
theorem dL_isCycle_247 : decode cL_isCycle 247 = .ok (.iconst 1, 1) := by decide +kernel
theorem dL_isCycle_248 : decode cL_isCycle 248 = .ok (.iand, 1) := by decide +kernel
theorem dL_isCycle_249 : decode cL_isCycle 249 = .ok (.iadd, 1) := by decide +kernel
theorem dL_isCycle_250 : decode cL_isCycle 250 = .ok (.istore 18, 2) := by decide +kernel
theorem dL_isCycle_252 : decode cL_isCycle 252 = .ok (.iinc 19 1, 3) := by decide +kernel
theorem dL_isCycle_255 : decode cL_isCycle 255 = .ok (.goto (-51), 3) := by decide +kernel
theorem dL_isCycle_258 : decode cL_isCycle 258 = .ok (.iload 15, 2) := by decide +kernel
theorem dL_isCycle_260 : decode cL_isCycle 260 = .ok (.iload_n 3, 1) := by decide +kernel
theorem dL_isCycle_261 : decode cL_isCycle 261 = .ok (.iconst 1, 1) := by decide +kernel
theorem dL_isCycle_262 : decode cL_isCycle 262 = .ok (.if_icmp .ne 7, 3) := by decide +kernel
theorem dL_isCycle_265 : decode cL_isCycle 265 = .ok (.iconst 1, 1) := by decide +kernel
theorem dL_isCycle_266 : decode cL_isCycle 266 = .ok (.goto 4, 3) := by decide +kernel
theorem dL_isCycle_269 : decode cL_isCycle 269 = .ok (.iconst 0, 1) := by decide +kernel
theorem dL_isCycle_270 : decode cL_isCycle 270 = .ok (.if_icmp .ne 92, 3) := by decide +kernel
theorem dL_isCycle_273 : decode cL_isCycle 273 = .ok (.aload_n 0, 1) := by decide +kernel
theorem dL_isCycle_274 : decode cL_isCycle 274 = .ok (.iconst 3, 1) := by decide +kernel
theorem dL_isCycle_275 : decode cL_isCycle 275 = .ok (.invokevirtual 9, 3) := by decide +kernel
theorem dL_isCycle_278 : decode cL_isCycle 278 = .ok (.iload 7, 2) := by decide +kernel
theorem dL_isCycle_280 : decode cL_isCycle 280 = .ok (.iload 16, 2) := by decide +kernel
theorem dL_isCycle_282 : decode cL_isCycle 282 = .ok (.iadd, 1) := by decide +kernel
theorem dL_isCycle_283 : decode cL_isCycle 283 = .ok (.if_icmp .ne 79, 3) := by decide +kernel
theorem dL_isCycle_286 : decode cL_isCycle 286 = .ok (.aload_n 0, 1) := by decide +kernel
theorem dL_isCycle_287 : decode cL_isCycle 287 = .ok (.iconst 4, 1) := by decide +kernel
theorem dL_isCycle_288 : decode cL_isCycle 288 = .ok (.invokevirtual 9, 3) := by decide +kernel
theorem dL_isCycle_291 : decode cL_isCycle 291 = .ok (.iload 8, 2) := by decide +kernel
theorem dL_isCycle_293 : decode cL_isCycle 293 = .ok (.iload_n 3, 1) := by decide +kernel
theorem dL_isCycle_294 : decode cL_isCycle 294 = .ok (.iconst 2, 1) := by decide +kernel
theorem dL_isCycle_295 : decode cL_isCycle 295 = .ok (.if_icmp .ne 7, 3) := by decide +kernel
theorem dL_isCycle_298 : decode cL_isCycle 298 = .ok (.iconst 0, 1) := by decide +kernel
theorem dL_isCycle_299 : decode cL_isCycle 299 = .ok (.goto 4, 3) := by decide +kernel
theorem dL_isCycle_302 : decode cL_isCycle 302 = .ok (.iconst 1, 1) := by decide +kernel
theorem dL_isCycle_303 : decode cL_isCycle 303 = .ok (.iadd, 1) := by decide +kernel
theorem dL_isCycle_304 : decode cL_isCycle 304 = .ok (.if_icmp .ne 58, 3) := by decide +kernel
theorem dL_isCycle_307 : decode cL_isCycle 307 = .ok (.aload_n 0, 1) := by decide +kernel
theorem dL_isCycle_308 : decode cL_isCycle 308 = .ok (.bipush 6, 2) := by decide +kernel
theorem dL_isCycle_310 : decode cL_isCycle 310 = .ok (.invokevirtual 9, 3) := by decide +kernel
theorem dL_isCycle_313 : decode cL_isCycle 313 = .ok (.iload 9, 2) := by decide +kernel
theorem dL_isCycle_315 : decode cL_isCycle 315 = .ok (.iload_n 3, 1) := by decide +kernel
theorem dL_isCycle_316 : decode cL_isCycle 316 = .ok (.iconst 2, 1) := by decide +kernel
theorem dL_isCycle_317 : decode cL_isCycle 317 = .ok (.if_icmp .ne 7, 3) := by decide +kernel
theorem dL_isCycle_320 : decode cL_isCycle 320 = .ok (.iconst 1, 1) := by decide +kernel
theorem dL_isCycle_321 : decode cL_isCycle 321 = .ok (.goto 4, 3) := by decide +kernel
theorem dL_isCycle_324 : decode cL_isCycle 324 = .ok (.iconst 0, 1) := by decide +kernel
theorem dL_isCycle_325 : decode cL_isCycle 325 = .ok (.iadd, 1) := by decide +kernel
theorem dL_isCycle_326 : decode cL_isCycle 326 = .ok (.if_icmp .ne 36, 3) := by decide +kernel
theorem dL_isCycle_329 : decode cL_isCycle 329 = .ok (.iload 17, 2) := by decide +kernel
theorem dL_isCycle_331 : decode cL_isCycle 331 = .ok (.iload 4, 2) := by decide +kernel
theorem dL_isCycle_333 : decode cL_isCycle 333 = .ok (.iload 18, 2) := by decide +kernel
theorem dL_isCycle_335 : decode cL_isCycle 335 = .ok (.iadd, 1) := by decide +kernel
theorem dL_isCycle_336 : decode cL_isCycle 336 = .ok (.if_icmp .ne 26, 3) := by decide +kernel
theorem dL_isCycle_339 : decode cL_isCycle 339 = .ok (.aload_n 0, 1) := by decide +kernel
theorem dL_isCycle_340 : decode cL_isCycle 340 = .ok (.bipush 11, 2) := by decide +kernel
theorem dL_isCycle_342 : decode cL_isCycle 342 = .ok (.invokevirtual 9, 3) := by decide +kernel
theorem dL_isCycle_345 : decode cL_isCycle 345 = .ok (.iload_n 1, 1) := by decide +kernel
theorem dL_isCycle_346 : decode cL_isCycle 346 = .ok (.iconst 1, 1) := by decide +kernel
theorem dL_isCycle_347 : decode cL_isCycle 347 = .ok (.iadd, 1) := by decide +kernel
theorem dL_isCycle_348 : decode cL_isCycle 348 = .ok (.aload_n 0, 1) := by decide +kernel
theorem dL_isCycle_349 : decode cL_isCycle 349 = .ok (.bipush 10, 2) := by decide +kernel
theorem dL_isCycle_351 : decode cL_isCycle 351 = .ok (.invokevirtual 9, 3) := by decide +kernel
theorem dL_isCycle_354 : decode cL_isCycle 354 = .ok (.irem, 1) := by decide +kernel
theorem dL_isCycle_355 : decode cL_isCycle 355 = .ok (.if_icmp .ne 7, 3) := by decide +kernel
theorem dL_isCycle_358 : decode cL_isCycle 358 = .ok (.iconst 1, 1) := by decide +kernel
theorem dL_isCycle_359 : decode cL_isCycle 359 = .ok (.goto 4, 3) := by decide +kernel
theorem dL_isCycle_362 : decode cL_isCycle 362 = .ok (.iconst 0, 1) := by decide +kernel
theorem dL_isCycle_363 : decode cL_isCycle 363 = .ok (.istore 19, 2) := by decide +kernel
theorem dL_isCycle_365 : decode cL_isCycle 365 = .ok (.aload_n 0, 1) := by decide +kernel
theorem dL_isCycle_366 : decode cL_isCycle 366 = .ok (.iconst 1, 1) := by decide +kernel
theorem dL_isCycle_367 : decode cL_isCycle 367 = .ok (.invokevirtual 9, 3) := by decide +kernel
theorem dL_isCycle_370 : decode cL_isCycle 370 = .ok (.iload 6, 2) := by decide +kernel
theorem dL_isCycle_372 : decode cL_isCycle 372 = .ok (.isub, 1) := by decide +kernel
theorem dL_isCycle_373 : decode cL_isCycle 373 = .ok (.istore 20, 2) := by decide +kernel
theorem dL_isCycle_375 : decode cL_isCycle 375 = .ok (.iload 7, 2) := by decide +kernel
theorem dL_isCycle_377 : decode cL_isCycle 377 = .ok (.iload 16, 2) := by decide +kernel
theorem dL_isCycle_379 : decode cL_isCycle 379 = .ok (.iadd, 1) := by decide +kernel
theorem dL_isCycle_380 : decode cL_isCycle 380 = .ok (.iconst 4, 1) := by decide +kernel
theorem dL_isCycle_381 : decode cL_isCycle 381 = .ok (.idiv, 1) := by decide +kernel
theorem dL_isCycle_382 : decode cL_isCycle 382 = .ok (.iload 7, 2) := by decide +kernel
theorem dL_isCycle_384 : decode cL_isCycle 384 = .ok (.iconst 4, 1) := by decide +kernel
theorem dL_isCycle_385 : decode cL_isCycle 385 = .ok (.idiv, 1) := by decide +kernel
theorem dL_isCycle_386 : decode cL_isCycle 386 = .ok (.isub, 1) := by decide +kernel
theorem dL_isCycle_387 : decode cL_isCycle 387 = .ok (.istore 21, 2) := by decide +kernel
theorem dL_isCycle_389 : decode cL_isCycle 389 = .ok (.iload 19, 2) := by decide +kernel
theorem dL_isCycle_391 : decode cL_isCycle 391 = .ok (.ifCond .eq 42, 3) := by decide +kernel
theorem dL_isCycle_394 : decode cL_isCycle 394 = .ok (.iload 20, 2) := by decide +kernel
theorem dL_isCycle_396 : decode cL_isCycle 396 = .ok (.iload 21, 2) := by decide +kernel
theorem dL_isCycle_398 : decode cL_isCycle 398 = .ok (.if_icmp .gt 35, 3) := by decide +kernel
theorem dL_isCycle_401 : decode cL_isCycle 401 = .ok (.iload 20, 2) := by decide +kernel
theorem dL_isCycle_403 : decode cL_isCycle 403 = .ok (.ineg, 1) := by decide +kernel
theorem dL_isCycle_404 : decode cL_isCycle 404 = .ok (.iload 21, 2) := by decide +kernel
theorem dL_isCycle_406 : decode cL_isCycle 406 = .ok (.if_icmp .gt 27, 3) := by decide +kernel
theorem dL_isCycle_409 : decode cL_isCycle 409 = .ok (.aload_n 0, 1) := by decide +kernel
theorem dL_isCycle_410 : decode cL_isCycle 410 = .ok (.iconst 1, 1) := by decide +kernel
theorem dL_isCycle_411 : decode cL_isCycle 411 = .ok (.invokevirtual 9, 3) := by decide +kernel
theorem dL_isCycle_414 : decode cL_isCycle 414 = .ok (.bipush 20, 2) := by decide +kernel
theorem dL_isCycle_416 : decode cL_isCycle 416 = .ok (.if_icmp .lt 17, 3) := by decide +kernel
theorem dL_isCycle_419 : decode cL_isCycle 419 = .ok (.aload_n 0, 1) := by decide +kernel
theorem dL_isCycle_420 : decode cL_isCycle 420 = .ok (.iconst 1, 1) := by decide +kernel
theorem dL_isCycle_421 : decode cL_isCycle 421 = .ok (.invokevirtual 9, 3) := by decide +kernel
theorem dL_isCycle_424 : decode cL_isCycle 424 = .ok (.bipush 120, 2) := by decide +kernel
theorem dL_isCycle_426 : decode cL_isCycle 426 = .ok (.if_icmp .gt 7, 3) := by decide +kernel
theorem dL_isCycle_429 : decode cL_isCycle 429 = .ok (.iconst 1, 1) := by decide +kernel
theorem dL_isCycle_430 : decode cL_isCycle 430 = .ok (.goto 4, 3) := by decide +kernel
theorem dL_isCycle_433 : decode cL_isCycle 433 = .ok (.iconst 0, 1) := by decide +kernel
theorem dL_isCycle_434 : decode cL_isCycle 434 = .ok (.istore 19, 2) := by decide +kernel
theorem dL_isCycle_436 : decode cL_isCycle 436 = .ok (.iload 13, 2) := by decide +kernel
theorem dL_isCycle_438 : decode cL_isCycle 438 = .ok (.ifCond .ne 60, 3) := by decide +kernel
theorem dL_isCycle_441 : decode cL_isCycle 441 = .ok (.iload 19, 2) := by decide +kernel
theorem dL_isCycle_443 : decode cL_isCycle 443 = .ok (.ifCond .eq 53, 3) := by decide +kernel
theorem dL_isCycle_446 : decode cL_isCycle 446 = .ok (.aload_n 0, 1) := by decide +kernel
theorem dL_isCycle_447 : decode cL_isCycle 447 = .ok (.bipush 8, 2) := by decide +kernel
theorem dL_isCycle_449 : decode cL_isCycle 449 = .ok (.invokevirtual 9, 3) := by decide +kernel
theorem dL_isCycle_452 : decode cL_isCycle 452 = .ok (.ifCond .ne 44, 3) := by decide +kernel
theorem dL_isCycle_455 : decode cL_isCycle 455 = .ok (.aload_n 0, 1) := by decide +kernel
theorem dL_isCycle_456 : decode cL_isCycle 456 = .ok (.bipush 9, 2) := by decide +kernel
theorem dL_isCycle_458 : decode cL_isCycle 458 = .ok (.invokevirtual 9, 3) := by decide +kernel
theorem dL_isCycle_461 : decode cL_isCycle 461 = .ok (.ifCond .ne 35, 3) := by decide +kernel
theorem dL_isCycle_464 : decode cL_isCycle 464 = .ok (.aload_n 0, 1) := by decide +kernel
theorem dL_isCycle_465 : decode cL_isCycle 465 = .ok (.iconst 0, 1) := by decide +kernel
theorem dL_isCycle_466 : decode cL_isCycle 466 = .ok (.invokevirtual 9, 3) := by decide +kernel
theorem dL_isCycle_469 : decode cL_isCycle 469 = .ok (.iload 5, 2) := by decide +kernel
theorem dL_isCycle_471 : decode cL_isCycle 471 = .ok (.if_icmp .ne 25, 3) := by decide +kernel
theorem dL_isCycle_474 : decode cL_isCycle 474 = .ok (.aload_n 0, 1) := by decide +kernel
theorem dL_isCycle_475 : decode cL_isCycle 475 = .ok (.bipush 15, 2) := by decide +kernel
theorem dL_isCycle_477 : decode cL_isCycle 477 = .ok (.invokevirtual 9, 3) := by decide +kernel
theorem dL_isCycle_480 : decode cL_isCycle 480 = .ok (.aload_n 0, 1) := by decide +kernel
theorem dL_isCycle_481 : decode cL_isCycle 481 = .ok (.bipush 16, 2) := by decide +kernel
theorem dL_isCycle_483 : decode cL_isCycle 483 = .ok (.invokevirtual 9, 3) := by decide +kernel
theorem dL_isCycle_486 : decode cL_isCycle 486 = .ok (.iadd, 1) := by decide +kernel
theorem dL_isCycle_487 : decode cL_isCycle 487 = .ok (.iload 14, 2) := by decide +kernel
theorem dL_isCycle_489 : decode cL_isCycle 489 = .ok (.if_icmp .ne 7, 3) := by decide +kernel
theorem dL_isCycle_492 : decode cL_isCycle 492 = .ok (.iconst 1, 1) := by decide +kernel
theorem dL_isCycle_493 : decode cL_isCycle 493 = .ok (.goto 4, 3) := by decide +kernel
theorem dL_isCycle_496 : decode cL_isCycle 496 = .ok (.iconst 0, 1) := by decide +kernel
theorem dL_isCycle_497 : decode cL_isCycle 497 = .ok (.ireturn, 1) := by decide +kernel
theorem dL_isCycle_498 : decode cL_isCycle 498 = .ok (.iload 11, 2) := by decide +kernel
theorem dL_isCycle_500 : decode cL_isCycle 500 = .ok (.iload 15, 2) := by decide +kernel
theorem dL_isCycle_502 : decode cL_isCycle 502 = .ok (.iadd, 1) := by decide +kernel
theorem dL_isCycle_503 : decode cL_isCycle 503 = .ok (.istore 22, 2) := by decide +kernel
theorem dL_isCycle_505 : decode cL_isCycle 505 = .ok (.aload_n 0, 1) := by decide +kernel
theorem dL_isCycle_506 : decode cL_isCycle 506 = .ok (.bipush 21, 2) := by decide +kernel
theorem dL_isCycle_508 : decode cL_isCycle 508 = .ok (.invokevirtual 9, 3) := by decide +kernel
theorem dL_isCycle_511 : decode cL_isCycle 511 = .ok (.istore 23, 2) := by decide +kernel
theorem dL_isCycle_513 : decode cL_isCycle 513 = .ok (.iload 10, 2) := by decide +kernel
theorem dL_isCycle_515 : decode cL_isCycle 515 = .ok (.iload 16, 2) := by decide +kernel
theorem dL_isCycle_517 : decode cL_isCycle 517 = .ok (.iadd, 1) := by decide +kernel
theorem dL_isCycle_518 : decode cL_isCycle 518 = .ok (.aload_n 0, 1) := by decide +kernel
theorem dL_isCycle_519 : decode cL_isCycle 519 = .ok (.bipush 20, 2) := by decide +kernel
theorem dL_isCycle_521 : decode cL_isCycle 521 = .ok (.invokevirtual 9, 3) := by decide +kernel
theorem dL_isCycle_524 : decode cL_isCycle 524 = .ok (.if_icmp .lt 7, 3) := by decide +kernel
theorem dL_isCycle_527 : decode cL_isCycle 527 = .ok (.iconst 1, 1) := by decide +kernel
theorem dL_isCycle_528 : decode cL_isCycle 528 = .ok (.goto 4, 3) := by decide +kernel
theorem dL_isCycle_531 : decode cL_isCycle 531 = .ok (.iconst 0, 1) := by decide +kernel
theorem dL_isCycle_532 : decode cL_isCycle 532 = .ok (.istore 24, 2) := by decide +kernel
theorem dL_isCycle_534 : decode cL_isCycle 534 = .ok (.iload 24, 2) := by decide +kernel
theorem dL_isCycle_536 : decode cL_isCycle 536 = .ok (.ifCond .ne 49, 3) := by decide +kernel
theorem dL_isCycle_539 : decode cL_isCycle 539 = .ok (.iload 19, 2) := by decide +kernel
theorem dL_isCycle_541 : decode cL_isCycle 541 = .ok (.ifCond .eq 42, 3) := by decide +kernel
theorem dL_isCycle_544 : decode cL_isCycle 544 = .ok (.aload_n 0, 1) := by decide +kernel
theorem dL_isCycle_545 : decode cL_isCycle 545 = .ok (.bipush 8, 2) := by decide +kernel
theorem dL_isCycle_547 : decode cL_isCycle 547 = .ok (.invokevirtual 9, 3) := by decide +kernel
theorem dL_isCycle_550 : decode cL_isCycle 550 = .ok (.iload 10, 2) := by decide +kernel
theorem dL_isCycle_552 : decode cL_isCycle 552 = .ok (.iload 16, 2) := by decide +kernel
theorem dL_isCycle_554 : decode cL_isCycle 554 = .ok (.iadd, 1) := by decide +kernel
theorem dL_isCycle_555 : decode cL_isCycle 555 = .ok (.if_icmp .ne 28, 3) := by decide +kernel
theorem dL_isCycle_558 : decode cL_isCycle 558 = .ok (.aload_n 0, 1) := by decide +kernel
theorem dL_isCycle_559 : decode cL_isCycle 559 = .ok (.bipush 9, 2) := by decide +kernel
theorem dL_isCycle_561 : decode cL_isCycle 561 = .ok (.invokevirtual 9, 3) := by decide +kernel
theorem dL_isCycle_564 : decode cL_isCycle 564 = .ok (.iload 22, 2) := by decide +kernel
theorem dL_isCycle_566 : decode cL_isCycle 566 = .ok (.if_icmp .ne 17, 3) := by decide +kernel
theorem dL_isCycle_569 : decode cL_isCycle 569 = .ok (.aload_n 0, 1) := by decide +kernel
theorem dL_isCycle_570 : decode cL_isCycle 570 = .ok (.iconst 0, 1) := by decide +kernel
theorem dL_isCycle_571 : decode cL_isCycle 571 = .ok (.invokevirtual 9, 3) := by decide +kernel
theorem dL_isCycle_574 : decode cL_isCycle 574 = .ok (.iload 5, 2) := by decide +kernel
theorem dL_isCycle_576 : decode cL_isCycle 576 = .ok (.if_icmp .ne 7, 3) := by decide +kernel
theorem dL_isCycle_579 : decode cL_isCycle 579 = .ok (.iconst 1, 1) := by decide +kernel
theorem dL_isCycle_580 : decode cL_isCycle 580 = .ok (.goto 4, 3) := by decide +kernel
theorem dL_isCycle_583 : decode cL_isCycle 583 = .ok (.iconst 0, 1) := by decide +kernel
theorem dL_isCycle_584 : decode cL_isCycle 584 = .ok (.ireturn, 1) := by decide +kernel
theorem dL_isCycle_585 : decode cL_isCycle 585 = .ok (.iload 22, 2) := by decide +kernel
theorem dL_isCycle_587 : decode cL_isCycle 587 = .ok (.iload 23, 2) := by decide +kernel
theorem dL_isCycle_589 : decode cL_isCycle 589 = .ok (.isub, 1) := by decide +kernel
theorem dL_isCycle_590 : decode cL_isCycle 590 = .ok (.aload_n 0, 1) := by decide +kernel
theorem dL_isCycle_591 : decode cL_isCycle 591 = .ok (.bipush 23, 2) := by decide +kernel
theorem dL_isCycle_593 : decode cL_isCycle 593 = .ok (.invokevirtual 9, 3) := by decide +kernel
theorem dL_isCycle_596 : decode cL_isCycle 596 = .ok (.if_icmp .le 12, 3) := by decide +kernel
theorem dL_isCycle_599 : decode cL_isCycle 599 = .ok (.aload_n 0, 1) := by decide +kernel
theorem dL_isCycle_600 : decode cL_isCycle 600 = .ok (.bipush 23, 2) := by decide +kernel
theorem dL_isCycle_602 : decode cL_isCycle 602 = .ok (.invokevirtual 9, 3) := by decide +kernel
theorem dL_isCycle_605 : decode cL_isCycle 605 = .ok (.goto 8, 3) := by decide +kernel
theorem dL_isCycle_608 : decode cL_isCycle 608 = .ok (.iload 22, 2) := by decide +kernel
theorem dL_isCycle_610 : decode cL_isCycle 610 = .ok (.iload 23, 2) := by decide +kernel
theorem dL_isCycle_612 : decode cL_isCycle 612 = .ok (.isub, 1) := by decide +kernel
theorem dL_isCycle_613 : decode cL_isCycle 613 = .ok (.istore 25, 2) := by decide +kernel
theorem dL_isCycle_615 : decode cL_isCycle 615 = .ok (.iload 22, 2) := by decide +kernel
theorem dL_isCycle_617 : decode cL_isCycle 617 = .ok (.iload 23, 2) := by decide +kernel
theorem dL_isCycle_619 : decode cL_isCycle 619 = .ok (.if_icmp .ge 15, 3) := by decide +kernel
theorem dL_isCycle_622 : decode cL_isCycle 622 = .ok (.iload 5, 2) := by decide +kernel
theorem dL_isCycle_624 : decode cL_isCycle 624 = .ok (.aload_n 0, 1) := by decide +kernel
theorem dL_isCycle_625 : decode cL_isCycle 625 = .ok (.bipush 22, 2) := by decide +kernel
theorem dL_isCycle_627 : decode cL_isCycle 627 = .ok (.invokevirtual 9, 3) := by decide +kernel
theorem dL_isCycle_630 : decode cL_isCycle 630 = .ok (.isub, 1) := by decide +kernel
theorem dL_isCycle_631 : decode cL_isCycle 631 = .ok (.goto 24, 3) := by decide +kernel
theorem dL_isCycle_634 : decode cL_isCycle 634 = .ok (.iload 5, 2) := by decide +kernel
theorem dL_isCycle_636 : decode cL_isCycle 636 = .ok (.iload 25, 2) := by decide +kernel
theorem dL_isCycle_638 : decode cL_isCycle 638 = .ok (.ifCond .le 8, 3) := by decide +kernel
theorem dL_isCycle_641 : decode cL_isCycle 641 = .ok (.iload 25, 2) := by decide +kernel
theorem dL_isCycle_643 : decode cL_isCycle 643 = .ok (.goto 4, 3) := by decide +kernel
theorem dL_isCycle_646 : decode cL_isCycle 646 = .ok (.iconst 0, 1) := by decide +kernel
theorem dL_isCycle_647 : decode cL_isCycle 647 = .ok (.aload_n 0, 1) := by decide +kernel
theorem dL_isCycle_648 : decode cL_isCycle 648 = .ok (.bipush 22, 2) := by decide +kernel
theorem dL_isCycle_650 : decode cL_isCycle 650 = .ok (.invokevirtual 9, 3) := by decide +kernel
theorem dL_isCycle_653 : decode cL_isCycle 653 = .ok (.imul, 1) := by decide +kernel
theorem dL_isCycle_654 : decode cL_isCycle 654 = .ok (.iadd, 1) := by decide +kernel
theorem dL_isCycle_655 : decode cL_isCycle 655 = .ok (.istore 26, 2) := by decide +kernel
theorem dL_isCycle_657 : decode cL_isCycle 657 = .ok (.iload 26, 2) := by decide +kernel
theorem dL_isCycle_659 : decode cL_isCycle 659 = .ok (.sipush 500, 3) := by decide +kernel
theorem dL_isCycle_662 : decode cL_isCycle 662 = .ok (.if_icmp .ge 9, 3) := by decide +kernel
theorem dL_isCycle_665 : decode cL_isCycle 665 = .ok (.sipush 500, 3) := by decide +kernel
theorem dL_isCycle_668 : decode cL_isCycle 668 = .ok (.goto 19, 3) := by decide +kernel
theorem dL_isCycle_671 : decode cL_isCycle 671 = .ok (.iload 26, 2) := by decide +kernel
theorem dL_isCycle_673 : decode cL_isCycle 673 = .ok (.sipush 1200, 3) := by decide +kernel
theorem dL_isCycle_676 : decode cL_isCycle 676 = .ok (.if_icmp .le 9, 3) := by decide +kernel
theorem dL_isCycle_679 : decode cL_isCycle 679 = .ok (.sipush 1200, 3) := by decide +kernel
theorem dL_isCycle_682 : decode cL_isCycle 682 = .ok (.goto 5, 3) := by decide +kernel
theorem dL_isCycle_685 : decode cL_isCycle 685 = .ok (.iload 26, 2) := by decide +kernel
theorem dL_isCycle_687 : decode cL_isCycle 687 = .ok (.istore 26, 2) := by decide +kernel
theorem dL_isCycle_689 : decode cL_isCycle 689 = .ok (.iload 19, 2) := by decide +kernel
theorem dL_isCycle_691 : decode cL_isCycle 691 = .ok (.ifCond .eq 76, 3) := by decide +kernel
theorem dL_isCycle_694 : decode cL_isCycle 694 = .ok (.aload_n 0, 1) := by decide +kernel
theorem dL_isCycle_695 : decode cL_isCycle 695 = .ok (.bipush 8, 2) := by decide +kernel
theorem dL_isCycle_697 : decode cL_isCycle 697 = .ok (.invokevirtual 9, 3) := by decide +kernel
theorem dL_isCycle_700 : decode cL_isCycle 700 = .ok (.ifCond .ne 67, 3) := by decide +kernel
theorem dL_isCycle_703 : decode cL_isCycle 703 = .ok (.aload_n 0, 1) := by decide +kernel
theorem dL_isCycle_704 : decode cL_isCycle 704 = .ok (.bipush 9, 2) := by decide +kernel
theorem dL_isCycle_706 : decode cL_isCycle 706 = .ok (.invokevirtual 9, 3) := by decide +kernel
theorem dL_isCycle_709 : decode cL_isCycle 709 = .ok (.ifCond .ne 58, 3) := by decide +kernel
theorem dL_isCycle_712 : decode cL_isCycle 712 = .ok (.aload_n 0, 1) := by decide +kernel
theorem dL_isCycle_713 : decode cL_isCycle 713 = .ok (.iconst 0, 1) := by decide +kernel
theorem dL_isCycle_714 : decode cL_isCycle 714 = .ok (.invokevirtual 9, 3) := by decide +kernel
theorem dL_isCycle_717 : decode cL_isCycle 717 = .ok (.iload 26, 2) := by decide +kernel
theorem dL_isCycle_719 : decode cL_isCycle 719 = .ok (.if_icmp .ne 48, 3) := by decide +kernel
theorem dL_isCycle_722 : decode cL_isCycle 722 = .ok (.aload_n 0, 1) := by decide +kernel
theorem dL_isCycle_723 : decode cL_isCycle 723 = .ok (.bipush 15, 2) := by decide +kernel
theorem dL_isCycle_725 : decode cL_isCycle 725 = .ok (.invokevirtual 9, 3) := by decide +kernel
theorem dL_isCycle_728 : decode cL_isCycle 728 = .ok (.aload_n 0, 1) := by decide +kernel
theorem dL_isCycle_729 : decode cL_isCycle 729 = .ok (.bipush 16, 2) := by decide +kernel
theorem dL_isCycle_731 : decode cL_isCycle 731 = .ok (.invokevirtual 9, 3) := by decide +kernel
theorem dL_isCycle_734 : decode cL_isCycle 734 = .ok (.iadd, 1) := by decide +kernel
theorem dL_isCycle_735 : decode cL_isCycle 735 = .ok (.iload 14, 2) := by decide +kernel
theorem dL_isCycle_737 : decode cL_isCycle 737 = .ok (.iload 22, 2) := by decide +kernel
theorem dL_isCycle_739 : decode cL_isCycle 739 = .ok (.iload 23, 2) := by decide +kernel
theorem dL_isCycle_741 : decode cL_isCycle 741 = .ok (.if_icmp .ge 7, 3) := by decide +kernel
theorem dL_isCycle_744 : decode cL_isCycle 744 = .ok (.iconst 1, 1) := by decide +kernel
theorem dL_isCycle_745 : decode cL_isCycle 745 = .ok (.goto 14, 3) := by decide +kernel
theorem dL_isCycle_748 : decode cL_isCycle 748 = .ok (.iload 25, 2) := by decide +kernel
theorem dL_isCycle_750 : decode cL_isCycle 750 = .ok (.ifCond .le 8, 3) := by decide +kernel
theorem dL_isCycle_753 : decode cL_isCycle 753 = .ok (.iload 25, 2) := by decide +kernel
theorem dL_isCycle_755 : decode cL_isCycle 755 = .ok (.goto 4, 3) := by decide +kernel
theorem dL_isCycle_758 : decode cL_isCycle 758 = .ok (.iconst 0, 1) := by decide +kernel
theorem dL_isCycle_759 : decode cL_isCycle 759 = .ok (.iadd, 1) := by decide +kernel
theorem dL_isCycle_760 : decode cL_isCycle 760 = .ok (.if_icmp .ne 7, 3) := by decide +kernel
theorem dL_isCycle_763 : decode cL_isCycle 763 = .ok (.iconst 1, 1) := by decide +kernel
theorem dL_isCycle_764 : decode cL_isCycle 764 = .ok (.goto 4, 3) := by decide +kernel
theorem dL_isCycle_767 : decode cL_isCycle 767 = .ok (.iconst 0, 1) := by decide +kernel
theorem dL_isCycle_768 : decode cL_isCycle 768 = .ok (.ireturn, 1) := by decide +kernel
theorem dL_areAlike_0 : decode cL_areAlike 0 = .ok (.aload_n 0, 1) := by decide +kernel
theorem dL_areAlike_1 : decode cL_areAlike 1 = .ok (.bipush 12, 2) := by decide +kernel
theorem dL_areAlike_3 : decode cL_areAlike 3 = .ok (.invokevirtual 9, 3) := by decide +kernel
theorem dL_areAlike_6 : decode cL_areAlike 6 = .ok (.iconst 3, 1) := by decide +kernel
theorem dL_areAlike_7 : decode cL_areAlike 7 = .ok (.if_icmp .ne 53, 3) := by decide +kernel
theorem dL_areAlike_10 : decode cL_areAlike 10 = .ok (.aload_n 1, 1) := by decide +kernel
theorem dL_areAlike_11 : decode cL_areAlike 11 = .ok (.bipush 12, 2) := by decide +kernel
theorem dL_areAlike_13 : decode cL_areAlike 13 = .ok (.invokevirtual 9, 3) := by decide +kernel
theorem dL_areAlike_16 : decode cL_areAlike 16 = .ok (.iconst 5, 1) := by decide +kernel
theorem dL_areAlike_17 : decode cL_areAlike 17 = .ok (.if_icmp .ne 43, 3) := by decide +kernel
theorem dL_areAlike_20 : decode cL_areAlike 20 = .ok (.aload_n 0, 1) := by decide +kernel
theorem dL_areAlike_21 : decode cL_areAlike 21 = .ok (.bipush 13, 2) := by decide +kernel
theorem dL_areAlike_23 : decode cL_areAlike 23 = .ok (.invokevirtual 9, 3) := by decide +kernel
theorem dL_areAlike_26 : decode cL_areAlike 26 = .ok (.aload_n 1, 1) := by decide +kernel
theorem dL_areAlike_27 : decode cL_areAlike 27 = .ok (.bipush 13, 2) := by decide +kernel
theorem dL_areAlike_29 : decode cL_areAlike 29 = .ok (.invokevirtual 9, 3) := by decide +kernel
theorem dL_areAlike_32 : decode cL_areAlike 32 = .ok (.bipush 7, 2) := by decide +kernel
theorem dL_areAlike_34 : decode cL_areAlike 34 = .ok (.iand, 1) := by decide +kernel
theorem dL_areAlike_35 : decode cL_areAlike 35 = .ok (.if_icmp .ne 25, 3) := by decide +kernel
theorem dL_areAlike_38 : decode cL_areAlike 38 = .ok (.aload_n 0, 1) := by decide +kernel
theorem dL_areAlike_39 : decode cL_areAlike 39 = .ok (.bipush 14, 2) := by decide +kernel
theorem dL_areAlike_41 : decode cL_areAlike 41 = .ok (.invokevirtual 9, 3) := by decide +kernel
theorem dL_areAlike_44 : decode cL_areAlike 44 = .ok (.aload_n 1, 1) := by decide +kernel
theorem dL_areAlike_45 : decode cL_areAlike 45 = .ok (.bipush 14, 2) := by decide +kernel
theorem dL_areAlike_47 : decode cL_areAlike 47 = .ok (.invokevirtual 9, 3) := by decide +kernel
theorem dL_areAlike_50 : decode cL_areAlike 50 = .ok (.bipush 7, 2) := by decide +kernel
theorem dL_areAlike_52 : decode cL_areAlike 52 = .ok (.iand, 1) := by decide +kernel
theorem dL_areAlike_53 : decode cL_areAlike 53 = .ok (.if_icmp .ne 7, 3) := by decide +kernel
theorem dL_areAlike_56 : decode cL_areAlike 56 = .ok (.iconst 1, 1) := by decide +kernel
theorem dL_areAlike_57 : decode cL_areAlike 57 = .ok (.goto 4, 3) := by decide +kernel
theorem dL_areAlike_60 : decode cL_areAlike 60 = .ok (.iconst 0, 1) := by decide +kernel
theorem dL_areAlike_61 : decode cL_areAlike 61 = .ok (.istore_n 2, 1) := by decide +kernel
theorem dL_areAlike_62 : decode cL_areAlike 62 = .ok (.iconst 0, 1) := by decide +kernel
theorem dL_areAlike_63 : decode cL_areAlike 63 = .ok (.istore_n 3, 1) := by decide +kernel
theorem dL_areAlike_64 : decode cL_areAlike 64 = .ok (.iload_n 3, 1) := by decide +kernel
theorem dL_areAlike_65 : decode cL_areAlike 65 = .ok (.bipush 24, 2) := by decide +kernel
theorem dL_areAlike_67 : decode cL_areAlike 67 = .ok (.if_icmp .ge 50, 3) := by decide +kernel
theorem dL_areAlike_70 : decode cL_areAlike 70 = .ok (.iload_n 2, 1) := by decide +kernel
theorem dL_areAlike_71 : decode cL_areAlike 71 = .ok (.ifCond .eq 38, 3) := by decide +kernel
theorem dL_areAlike_74 : decode cL_areAlike 74 = .ok (.iload_n 3, 1) := by decide +kernel
theorem dL_areAlike_75 : decode cL_areAlike 75 = .ok (.bipush 12, 2) := by decide +kernel
theorem dL_areAlike_77 : decode cL_areAlike 77 = .ok (.if_icmp .eq 28, 3) := by decide +kernel
theorem dL_areAlike_80 : decode cL_areAlike 80 = .ok (.iload_n 3, 1) := by decide +kernel
theorem dL_areAlike_81 : decode cL_areAlike 81 = .ok (.bipush 13, 2) := by decide +kernel
theorem dL_areAlike_83 : decode cL_areAlike 83 = .ok (.if_icmp .eq 22, 3) := by decide +kernel
theorem dL_areAlike_86 : decode cL_areAlike 86 = .ok (.iload_n 3, 1) := by decide +kernel
theorem dL_areAlike_87 : decode cL_areAlike 87 = .ok (.bipush 14, 2) := by decide +kernel
theorem dL_areAlike_89 : decode cL_areAlike 89 = .ok (.if_icmp .eq 16, 3) := by decide +kernel
theorem dL_areAlike_92 : decode cL_areAlike 92 = .ok (.aload_n 0, 1) := by decide +kernel
theorem dL_areAlike_93 : decode cL_areAlike 93 = .ok (.iload_n 3, 1) := by decide +kernel
theorem dL_areAlike_94 : decode cL_areAlike 94 = .ok (.invokevirtual 9, 3) := by decide +kernel
theorem dL_areAlike_97 : decode cL_areAlike 97 = .ok (.aload_n 1, 1) := by decide +kernel
theorem dL_areAlike_98 : decode cL_areAlike 98 = .ok (.iload_n 3, 1) := by decide +kernel
theorem dL_areAlike_99 : decode cL_areAlike 99 = .ok (.invokevirtual 9, 3) := by decide +kernel
theorem dL_areAlike_102 : decode cL_areAlike 102 = .ok (.if_icmp .ne 7, 3) := by decide +kernel
theorem dL_areAlike_105 : decode cL_areAlike 105 = .ok (.iconst 1, 1) := by decide +kernel
theorem dL_areAlike_106 : decode cL_areAlike 106 = .ok (.goto 4, 3) := by decide +kernel
theorem dL_areAlike_109 : decode cL_areAlike 109 = .ok (.iconst 0, 1) := by decide +kernel
theorem dL_areAlike_110 : decode cL_areAlike 110 = .ok (.istore_n 2, 1) := by decide +kernel
theorem dL_areAlike_111 : decode cL_areAlike 111 = .ok (.iinc 3 1, 3) := by decide +kernel
theorem dL_areAlike_114 : decode cL_areAlike 114 = .ok (.goto (-50), 3) := by decide +kernel
theorem dL_areAlike_117 : decode cL_areAlike 117 = .ok (.iconst 0, 1) := by decide +kernel
theorem dL_areAlike_118 : decode cL_areAlike 118 = .ok (.istore_n 3, 1) := by decide +kernel
theorem dL_areAlike_119 : decode cL_areAlike 119 = .ok (.iload_n 3, 1) := by decide +kernel
theorem dL_areAlike_120 : decode cL_areAlike 120 = .ok (.iconst 3, 1) := by decide +kernel
theorem dL_areAlike_121 : decode cL_areAlike 121 = .ok (.if_icmp .ge 51, 3) := by decide +kernel
theorem dL_areAlike_124 : decode cL_areAlike 124 = .ok (.iconst 0, 1) := by decide +kernel
theorem dL_areAlike_125 : decode cL_areAlike 125 = .ok (.istore 4, 2) := by decide +kernel
theorem dL_areAlike_127 : decode cL_areAlike 127 = .ok (.iload 4, 2) := by decide +kernel
theorem dL_areAlike_129 : decode cL_areAlike 129 = .ok (.iconst 5, 1) := by decide +kernel
theorem dL_areAlike_130 : decode cL_areAlike 130 = .ok (.if_icmp .ge 36, 3) := by decide +kernel
theorem dL_areAlike_133 : decode cL_areAlike 133 = .ok (.iload_n 2, 1) := by decide +kernel
theorem dL_areAlike_134 : decode cL_areAlike 134 = .ok (.ifCond .eq 24, 3) := by decide +kernel
theorem dL_areAlike_137 : decode cL_areAlike 137 = .ok (.aload_n 0, 1) := by decide +kernel
theorem dL_areAlike_138 : decode cL_areAlike 138 = .ok (.iload_n 3, 1) := by decide +kernel
theorem dL_areAlike_139 : decode cL_areAlike 139 = .ok (.iload 4, 2) := by decide +kernel
theorem dL_areAlike_141 : decode cL_areAlike 141 = .ok (.invokevirtual 24, 3) := by decide +kernel
theorem dL_areAlike_144 : decode cL_areAlike 144 = .ok (.aload_n 1, 1) := by decide +kernel
theorem dL_areAlike_145 : decode cL_areAlike 145 = .ok (.iload_n 3, 1) := by decide +kernel
theorem dL_areAlike_146 : decode cL_areAlike 146 = .ok (.iload 4, 2) := by decide +kernel
theorem dL_areAlike_148 : decode cL_areAlike 148 = .ok (.invokevirtual 24, 3) := by decide +kernel
theorem dL_areAlike_151 : decode cL_areAlike 151 = .ok (.if_icmp .ne 7, 3) := by decide +kernel
theorem dL_areAlike_154 : decode cL_areAlike 154 = .ok (.iconst 1, 1) := by decide +kernel
theorem dL_areAlike_155 : decode cL_areAlike 155 = .ok (.goto 4, 3) := by decide +kernel
theorem dL_areAlike_158 : decode cL_areAlike 158 = .ok (.iconst 0, 1) := by decide +kernel
theorem dL_areAlike_159 : decode cL_areAlike 159 = .ok (.istore_n 2, 1) := by decide +kernel
theorem dL_areAlike_160 : decode cL_areAlike 160 = .ok (.iinc 4 1, 3) := by decide +kernel
theorem dL_areAlike_163 : decode cL_areAlike 163 = .ok (.goto (-36), 3) := by decide +kernel
theorem dL_areAlike_166 : decode cL_areAlike 166 = .ok (.iinc 3 1, 3) := by decide +kernel
theorem dL_areAlike_169 : decode cL_areAlike 169 = .ok (.goto (-50), 3) := by decide +kernel
theorem dL_areAlike_172 : decode cL_areAlike 172 = .ok (.iload_n 2, 1) := by decide +kernel
theorem dL_areAlike_173 : decode cL_areAlike 173 = .ok (.ifCond .eq 25, 3) := by decide +kernel
theorem dL_areAlike_176 : decode cL_areAlike 176 = .ok (.aload_n 1, 1) := by decide +kernel
theorem dL_areAlike_177 : decode cL_areAlike 177 = .ok (.iconst 3, 1) := by decide +kernel
theorem dL_areAlike_178 : decode cL_areAlike 178 = .ok (.iconst 3, 1) := by decide +kernel
theorem dL_areAlike_179 : decode cL_areAlike 179 = .ok (.invokevirtual 24, 3) := by decide +kernel
theorem dL_areAlike_182 : decode cL_areAlike 182 = .ok (.ifCond .ne 16, 3) := by decide +kernel
theorem dL_areAlike_185 : decode cL_areAlike 185 = .ok (.aload_n 1, 1) := by decide +kernel
theorem dL_areAlike_186 : decode cL_areAlike 186 = .ok (.iconst 4, 1) := by decide +kernel
theorem dL_areAlike_187 : decode cL_areAlike 187 = .ok (.iconst 3, 1) := by decide +kernel
theorem dL_areAlike_188 : decode cL_areAlike 188 = .ok (.invokevirtual 24, 3) := by decide +kernel
theorem dL_areAlike_191 : decode cL_areAlike 191 = .ok (.ifCond .ne 7, 3) := by decide +kernel
theorem dL_areAlike_194 : decode cL_areAlike 194 = .ok (.iconst 1, 1) := by decide +kernel
theorem dL_areAlike_195 : decode cL_areAlike 195 = .ok (.goto 4, 3) := by decide +kernel
theorem dL_areAlike_198 : decode cL_areAlike 198 = .ok (.iconst 0, 1) := by decide +kernel
theorem dL_areAlike_199 : decode cL_areAlike 199 = .ok (.ireturn, 1) := by decide +kernel
theorem dL_isWell_0 : decode cL_isWell 0 = .ok (.aload_n 0, 1) := by decide +kernel
theorem dL_isWell_1 : decode cL_isWell 1 = .ok (.iconst 4, 1) := by decide +kernel
theorem dL_isWell_2 : decode cL_isWell 2 = .ok (.invokevirtual 9, 3) := by decide +kernel
theorem dL_isWell_5 : decode cL_isWell 5 = .ok (.aload_n 0, 1) := by decide +kernel
theorem dL_isWell_6 : decode cL_isWell 6 = .ok (.bipush 6, 2) := by decide +kernel
theorem dL_isWell_8 : decode cL_isWell 8 = .ok (.invokevirtual 9, 3) := by decide +kernel
theorem dL_isWell_11 : decode cL_isWell 11 = .ok (.iadd, 1) := by decide +kernel
theorem dL_isWell_12 : decode cL_isWell 12 = .ok (.aload_n 0, 1) := by decide +kernel
theorem dL_isWell_13 : decode cL_isWell 13 = .ok (.iconst 3, 1) := by decide +kernel
theorem dL_isWell_14 : decode cL_isWell 14 = .ok (.invokevirtual 9, 3) := by decide +kernel
theorem dL_isWell_17 : decode cL_isWell 17 = .ok (.if_icmp .gt 57, 3) := by decide +kernel
theorem dL_isWell_20 : decode cL_isWell 20 = .ok (.aload_n 0, 1) := by decide +kernel
theorem dL_isWell_21 : decode cL_isWell 21 = .ok (.iconst 5, 1) := by decide +kernel
theorem dL_isWell_22 : decode cL_isWell 22 = .ok (.invokevirtual 9, 3) := by decide +kernel
theorem dL_isWell_25 : decode cL_isWell 25 = .ok (.aload_n 0, 1) := by decide +kernel
theorem dL_isWell_26 : decode cL_isWell 26 = .ok (.iconst 4, 1) := by decide +kernel
theorem dL_isWell_27 : decode cL_isWell 27 = .ok (.invokevirtual 9, 3) := by decide +kernel
theorem dL_isWell_30 : decode cL_isWell 30 = .ok (.if_icmp .gt 44, 3) := by decide +kernel
theorem dL_isWell_33 : decode cL_isWell 33 = .ok (.aload_n 0, 1) := by decide +kernel
theorem dL_isWell_34 : decode cL_isWell 34 = .ok (.iconst 0, 1) := by decide +kernel
theorem dL_isWell_35 : decode cL_isWell 35 = .ok (.invokevirtual 9, 3) := by decide +kernel
theorem dL_isWell_38 : decode cL_isWell 38 = .ok (.sipush 500, 3) := by decide +kernel
theorem dL_isWell_41 : decode cL_isWell 41 = .ok (.if_icmp .lt 33, 3) := by decide +kernel
theorem dL_isWell_44 : decode cL_isWell 44 = .ok (.aload_n 0, 1) := by decide +kernel
theorem dL_isWell_45 : decode cL_isWell 45 = .ok (.iconst 0, 1) := by decide +kernel
theorem dL_isWell_46 : decode cL_isWell 46 = .ok (.invokevirtual 9, 3) := by decide +kernel
theorem dL_isWell_49 : decode cL_isWell 49 = .ok (.sipush 1200, 3) := by decide +kernel
theorem dL_isWell_52 : decode cL_isWell 52 = .ok (.if_icmp .gt 22, 3) := by decide +kernel
theorem dL_isWell_55 : decode cL_isWell 55 = .ok (.aload_n 0, 1) := by decide +kernel
theorem dL_isWell_56 : decode cL_isWell 56 = .ok (.bipush 11, 2) := by decide +kernel
theorem dL_isWell_58 : decode cL_isWell 58 = .ok (.invokevirtual 9, 3) := by decide +kernel
theorem dL_isWell_61 : decode cL_isWell 61 = .ok (.aload_n 0, 1) := by decide +kernel
theorem dL_isWell_62 : decode cL_isWell 62 = .ok (.bipush 10, 2) := by decide +kernel
theorem dL_isWell_64 : decode cL_isWell 64 = .ok (.invokevirtual 9, 3) := by decide +kernel
theorem dL_isWell_67 : decode cL_isWell 67 = .ok (.if_icmp .ge 7, 3) := by decide +kernel
theorem dL_isWell_70 : decode cL_isWell 70 = .ok (.iconst 1, 1) := by decide +kernel
theorem dL_isWell_71 : decode cL_isWell 71 = .ok (.goto 4, 3) := by decide +kernel
theorem dL_isWell_74 : decode cL_isWell 74 = .ok (.iconst 0, 1) := by decide +kernel
theorem dL_isWell_75 : decode cL_isWell 75 = .ok (.istore_n 1, 1) := by decide +kernel
theorem dL_isWell_76 : decode cL_isWell 76 = .ok (.iconst 0, 1) := by decide +kernel
theorem dL_isWell_77 : decode cL_isWell 77 = .ok (.istore_n 2, 1) := by decide +kernel
theorem dL_isWell_78 : decode cL_isWell 78 = .ok (.iload_n 2, 1) := by decide +kernel
theorem dL_isWell_79 : decode cL_isWell 79 = .ok (.aload_n 0, 1) := by decide +kernel
theorem dL_isWell_80 : decode cL_isWell 80 = .ok (.bipush 12, 2) := by decide +kernel
theorem dL_isWell_82 : decode cL_isWell 82 = .ok (.invokevirtual 9, 3) := by decide +kernel
theorem dL_isWell_85 : decode cL_isWell 85 = .ok (.if_icmp .ge 235, 3) := by decide +kernel
theorem dL_isWell_88 : decode cL_isWell 88 = .ok (.iload_n 1, 1) := by decide +kernel
theorem dL_isWell_89 : decode cL_isWell 89 = .ok (.ifCond .eq 231, 3) := by decide +kernel
theorem dL_isWell_92 : decode cL_isWell 92 = .ok (.aload_n 0, 1) := by decide +kernel
theorem dL_isWell_93 : decode cL_isWell 93 = .ok (.iload_n 2, 1) := by decide +kernel
theorem dL_isWell_94 : decode cL_isWell 94 = .ok (.iconst 1, 1) := by decide +kernel
theorem dL_isWell_95 : decode cL_isWell 95 = .ok (.invokevirtual 24, 3) := by decide +kernel
theorem dL_isWell_98 : decode cL_isWell 98 = .ok (.istore_n 3, 1) := by decide +kernel
theorem dL_isWell_99 : decode cL_isWell 99 = .ok (.aload_n 0, 1) := by decide +kernel
theorem dL_isWell_100 : decode cL_isWell 100 = .ok (.bipush 17, 2) := by decide +kernel
theorem dL_isWell_102 : decode cL_isWell 102 = .ok (.invokevirtual 9, 3) := by decide +kernel
theorem dL_isWell_105 : decode cL_isWell 105 = .ok (.istore 4, 2) := by decide +kernel
theorem dL_isWell_107 : decode cL_isWell 107 = .ok (.iload_n 3, 1) := by decide +kernel
theorem dL_isWell_108 : decode cL_isWell 108 = .ok (.iload 4, 2) := by decide +kernel
theorem dL_isWell_110 : decode cL_isWell 110 = .ok (.if_icmp .gt 7, 3) := by decide +kernel
theorem dL_isWell_113 : decode cL_isWell 113 = .ok (.iconst 0, 1) := by decide +kernel
theorem dL_isWell_114 : decode cL_isWell 114 = .ok (.goto 21, 3) := by decide +kernel
theorem dL_isWell_117 : decode cL_isWell 117 = .ok (.iload_n 3, 1) := by decide +kernel
theorem dL_isWell_118 : decode cL_isWell 118 = .ok (.iload 4, 2) := by decide +kernel
theorem dL_isWell_120 : decode cL_isWell 120 = .ok (.aload_n 0, 1) := by decide +kernel
theorem dL_isWell_121 : decode cL_isWell 121 = .ok (.bipush 18, 2) := by decide +kernel
theorem dL_isWell_123 : decode cL_isWell 123 = .ok (.invokevirtual 9, 3) := by decide +kernel
theorem dL_isWell_126 : decode cL_isWell 126 = .ok (.iadd, 1) := by decide +kernel
theorem dL_isWell_127 : decode cL_isWell 127 = .ok (.if_icmp .gt 7, 3) := by decide +kernel
theorem dL_isWell_130 : decode cL_isWell 130 = .ok (.iconst 1, 1) := by decide +kernel
theorem dL_isWell_131 : decode cL_isWell 131 = .ok (.goto 4, 3) := by decide +kernel
theorem dL_isWell_134 : decode cL_isWell 134 = .ok (.iconst 2, 1) := by decide +kernel
theorem dL_isWell_135 : decode cL_isWell 135 = .ok (.istore 5, 2) := by decide +kernel
theorem dL_isWell_137 : decode cL_isWell 137 = .ok (.iconst 0, 1) := by decide +kernel
theorem dL_isWell_138 : decode cL_isWell 138 = .ok (.istore 6, 2) := by decide +kernel
theorem dL_isWell_140 : decode cL_isWell 140 = .ok (.iconst 0, 1) := by decide +kernel
theorem dL_isWell_141 : decode cL_isWell 141 = .ok (.istore 7, 2) := by decide +kernel
theorem dL_isWell_143 : decode cL_isWell 143 = .ok (.iload 7, 2) := by decide +kernel
theorem dL_isWell_145 : decode cL_isWell 145 = .ok (.aload_n 0, 1) := by decide +kernel
theorem dL_isWell_146 : decode cL_isWell 146 = .ok (.bipush 10, 2) := by decide +kernel
theorem dL_isWell_148 : decode cL_isWell 148 = .ok (.invokevirtual 9, 3) := by decide +kernel
theorem dL_isWell_151 : decode cL_isWell 151 = .ok (.if_icmp .ge 24, 3) := by decide +kernel
theorem dL_isWell_154 : decode cL_isWell 154 = .ok (.iload 6, 2) := by decide +kernel
theorem dL_isWell_156 : decode cL_isWell 156 = .ok (.aload_n 0, 1) := by decide +kernel
theorem dL_isWell_157 : decode cL_isWell 157 = .ok (.iload 7, 2) := by decide +kernel
theorem dL_isWell_159 : decode cL_isWell 159 = .ok (.invokevirtual 38, 3) := by decide +kernel
theorem dL_isWell_162 : decode cL_isWell 162 = .ok (.iload_n 2, 1) := by decide +kernel
theorem dL_isWell_163 : decode cL_isWell 163 = .ok (.ishr, 1) := by decide +kernel
theorem dL_isWell_164 : decode cL_isWell 164 = .ok (.iconst 1, 1) := by decide +kernel
theorem dL_isWell_165 : decode cL_isWell 165 = .ok (.iand, 1) := by decide +kernel
theorem dL_isWell_166 : decode cL_isWell 166 = .ok (.iadd, 1) := by decide +kernel
theorem dL_isWell_167 : decode cL_isWell 167 = .ok (.istore 6, 2) := by decide +kernel
theorem dL_isWell_169 : decode cL_isWell 169 = .ok (.iinc 7 1, 3) := by decide +kernel
theorem dL_isWell_172 : decode cL_isWell 172 = .ok (.goto (-29), 3) := by decide +kernel
theorem dL_isWell_175 : decode cL_isWell 175 = .ok (.iload_n 3, 1) := by decide +kernel
theorem dL_isWell_176 : decode cL_isWell 176 = .ok (.aload_n 0, 1) := by decide +kernel
theorem dL_isWell_177 : decode cL_isWell 177 = .ok (.iload_n 2, 1) := by decide +kernel
theorem dL_isWell_178 : decode cL_isWell 178 = .ok (.aload_n 0, 1) := by decide +kernel
theorem dL_isWell_179 : decode cL_isWell 179 = .ok (.iconst 0, 1) := by decide +kernel
theorem dL_isWell_180 : decode cL_isWell 180 = .ok (.invokevirtual 9, 3) := by decide +kernel
theorem dL_isWell_183 : decode cL_isWell 183 = .ok (.aload_n 0, 1) := by decide +kernel
theorem dL_isWell_184 : decode cL_isWell 184 = .ok (.iconst 1, 1) := by decide +kernel
theorem dL_isWell_185 : decode cL_isWell 185 = .ok (.invokevirtual 9, 3) := by decide +kernel
theorem dL_isWell_188 : decode cL_isWell 188 = .ok (.invokevirtual 68, 3) := by decide +kernel
theorem dL_isWell_191 : decode cL_isWell 191 = .ok (.if_icmp .ne 121, 3) := by decide +kernel
theorem dL_isWell_194 : decode cL_isWell 194 = .ok (.aload_n 0, 1) := by decide +kernel
theorem dL_isWell_195 : decode cL_isWell 195 = .ok (.iload_n 2, 1) := by decide +kernel
theorem dL_isWell_196 : decode cL_isWell 196 = .ok (.iconst 2, 1) := by decide +kernel
theorem dL_isWell_197 : decode cL_isWell 197 = .ok (.invokevirtual 24, 3) := by decide +kernel
theorem dL_isWell_200 : decode cL_isWell 200 = .ok (.iload 5, 2) := by decide +kernel
theorem dL_isWell_202 : decode cL_isWell 202 = .ok (.if_icmp .ne 110, 3) := by decide +kernel
theorem dL_isWell_205 : decode cL_isWell 205 = .ok (.aload_n 0, 1) := by decide +kernel
theorem dL_isWell_206 : decode cL_isWell 206 = .ok (.bipush 13, 2) := by decide +kernel
theorem dL_isWell_208 : decode cL_isWell 208 = .ok (.invokevirtual 9, 3) := by decide +kernel
theorem dL_isWell_211 : decode cL_isWell 211 = .ok (.iload_n 2, 1) := by decide +kernel
theorem dL_isWell_212 : decode cL_isWell 212 = .ok (.ishr, 1) := by decide +kernel
theorem dL_isWell_213 : decode cL_isWell 213 = .ok (.iconst 1, 1) := by decide +kernel
theorem dL_isWell_214 : decode cL_isWell 214 = .ok (.iand, 1) := by decide +kernel
theorem dL_isWell_215 : decode cL_isWell 215 = .ok (.iload 5, 2) := by decide +kernel
theorem dL_isWell_217 : decode cL_isWell 217 = .ok (.iconst 1, 1) := by decide +kernel
theorem dL_isWell_218 : decode cL_isWell 218 = .ok (.if_icmp .ne 7, 3) := by decide +kernel
theorem dL_isWell_221 : decode cL_isWell 221 = .ok (.iconst 1, 1) := by decide +kernel
theorem dL_isWell_222 : decode cL_isWell 222 = .ok (.goto 4, 3) := by decide +kernel
theorem dL_isWell_225 : decode cL_isWell 225 = .ok (.iconst 0, 1) := by decide +kernel
theorem dL_isWell_226 : decode cL_isWell 226 = .ok (.if_icmp .ne 86, 3) := by decide +kernel
theorem dL_isWell_229 : decode cL_isWell 229 = .ok (.aload_n 0, 1) := by decide +kernel
theorem dL_isWell_230 : decode cL_isWell 230 = .ok (.bipush 14, 2) := by decide +kernel
theorem dL_isWell_232 : decode cL_isWell 232 = .ok (.invokevirtual 9, 3) := by decide +kernel
theorem dL_isWell_235 : decode cL_isWell 235 = .ok (.iload_n 2, 1) := by decide +kernel
theorem dL_isWell_236 : decode cL_isWell 236 = .ok (.ishr, 1) := by decide +kernel
theorem dL_isWell_237 : decode cL_isWell 237 = .ok (.iconst 1, 1) := by decide +kernel
theorem dL_isWell_238 : decode cL_isWell 238 = .ok (.iand, 1) := by decide +kernel
theorem dL_isWell_239 : decode cL_isWell 239 = .ok (.iload 5, 2) := by decide +kernel
theorem dL_isWell_241 : decode cL_isWell 241 = .ok (.iconst 2, 1) := by decide +kernel
theorem dL_isWell_242 : decode cL_isWell 242 = .ok (.if_icmp .ne 7, 3) := by decide +kernel
theorem dL_isWell_245 : decode cL_isWell 245 = .ok (.iconst 1, 1) := by decide +kernel
theorem dL_isWell_246 : decode cL_isWell 246 = .ok (.goto 4, 3) := by decide +kernel
theorem dL_isWell_249 : decode cL_isWell 249 = .ok (.iconst 0, 1) := by decide +kernel
theorem dL_isWell_250 : decode cL_isWell 250 = .ok (.if_icmp .ne 62, 3) := by decide +kernel
theorem dL_isWell_253 : decode cL_isWell 253 = .ok (.aload_n 0, 1) := by decide +kernel
theorem dL_isWell_254 : decode cL_isWell 254 = .ok (.iload_n 2, 1) := by decide +kernel
theorem dL_isWell_255 : decode cL_isWell 255 = .ok (.iconst 4, 1) := by decide +kernel
theorem dL_isWell_256 : decode cL_isWell 256 = .ok (.invokevirtual 24, 3) := by decide +kernel
theorem dL_isWell_259 : decode cL_isWell 259 = .ok (.iload 6, 2) := by decide +kernel
theorem dL_isWell_261 : decode cL_isWell 261 = .ok (.if_icmp .ne 51, 3) := by decide +kernel
theorem dL_isWell_264 : decode cL_isWell 264 = .ok (.aload_n 0, 1) := by decide +kernel
theorem dL_isWell_265 : decode cL_isWell 265 = .ok (.iconst 0, 1) := by decide +kernel
theorem dL_isWell_266 : decode cL_isWell 266 = .ok (.invokevirtual 9, 3) := by decide +kernel
theorem dL_isWell_269 : decode cL_isWell 269 = .ok (.sipush 1200, 3) := by decide +kernel
theorem dL_isWell_272 : decode cL_isWell 272 = .ok (.if_icmp .eq 20, 3) := by decide +kernel
theorem dL_isWell_275 : decode cL_isWell 275 = .ok (.aload_n 0, 1) := by decide +kernel
theorem dL_isWell_276 : decode cL_isWell 276 = .ok (.iload_n 2, 1) := by decide +kernel
theorem dL_isWell_277 : decode cL_isWell 277 = .ok (.sipush 1200, 3) := by decide +kernel
theorem dL_isWell_280 : decode cL_isWell 280 = .ok (.aload_n 0, 1) := by decide +kernel
theorem dL_isWell_281 : decode cL_isWell 281 = .ok (.iconst 1, 1) := by decide +kernel
theorem dL_isWell_282 : decode cL_isWell 282 = .ok (.invokevirtual 9, 3) := by decide +kernel
theorem dL_isWell_285 : decode cL_isWell 285 = .ok (.invokevirtual 68, 3) := by decide +kernel
theorem dL_isWell_288 : decode cL_isWell 288 = .ok (.iload_n 3, 1) := by decide +kernel
theorem dL_isWell_289 : decode cL_isWell 289 = .ok (.if_icmp .gt 23, 3) := by decide +kernel
theorem dL_isWell_292 : decode cL_isWell 292 = .ok (.aload_n 0, 1) := by decide +kernel
theorem dL_isWell_293 : decode cL_isWell 293 = .ok (.iload_n 2, 1) := by decide +kernel
theorem dL_isWell_294 : decode cL_isWell 294 = .ok (.aload_n 0, 1) := by decide +kernel
theorem dL_isWell_295 : decode cL_isWell 295 = .ok (.iconst 0, 1) := by decide +kernel
theorem dL_isWell_296 : decode cL_isWell 296 = .ok (.invokevirtual 9, 3) := by decide +kernel
theorem dL_isWell_299 : decode cL_isWell 299 = .ok (.bipush 120, 2) := by decide +kernel
theorem dL_isWell_301 : decode cL_isWell 301 = .ok (.invokevirtual 68, 3) := by decide +kernel
theorem dL_isWell_304 : decode cL_isWell 304 = .ok (.iload_n 3, 1) := by decide +kernel
theorem dL_isWell_305 : decode cL_isWell 305 = .ok (.if_icmp .lt 7, 3) := by decide +kernel
theorem dL_isWell_308 : decode cL_isWell 308 = .ok (.iconst 1, 1) := by decide +kernel
theorem dL_isWell_309 : decode cL_isWell 309 = .ok (.goto 4, 3) := by decide +kernel
theorem dL_isWell_312 : decode cL_isWell 312 = .ok (.iconst 0, 1) := by decide +kernel
theorem dL_isWell_313 : decode cL_isWell 313 = .ok (.istore_n 1, 1) := by decide +kernel
theorem dL_isWell_314 : decode cL_isWell 314 = .ok (.iinc 2 1, 3) := by decide +kernel
theorem dL_isWell_317 : decode cL_isWell 317 = .ok (.goto (-239), 3) := by decide +kernel
theorem dL_isWell_320 : decode cL_isWell 320 = .ok (.iload_n 1, 1) := by decide +kernel
theorem dL_isWell_321 : decode cL_isWell 321 = .ok (.ireturn, 1) := by decide +kernel
theorem dL_law_0 : decode cL_law 0 = .ok (.new 10, 3) := by decide +kernel
theorem dL_law_3 : decode cL_law 3 = .ok (.dup, 1) := by decide +kernel
theorem dL_law_4 : decode cL_law 4 = .ok (.invokespecial 71, 3) := by decide +kernel
theorem dL_law_7 : decode cL_law 7 = .ok (.astore_n 1, 1) := by decide +kernel
theorem dL_law_8 : decode cL_law 8 = .ok (.new 10, 3) := by decide +kernel
theorem dL_law_11 : decode cL_law 11 = .ok (.dup, 1) := by decide +kernel
theorem dL_law_12 : decode cL_law 12 = .ok (.invokespecial 71, 3) := by decide +kernel
theorem dL_law_15 : decode cL_law 15 = .ok (.astore_n 2, 1) := by decide +kernel
theorem dL_law_16 : decode cL_law 16 = .ok (.bipush 6, 2) := by decide +kernel
theorem dL_law_18 : decode cL_law 18 = .ok (.newarray .int, 2) := by decide +kernel
theorem dL_law_20 : decode cL_law 20 = .ok (.astore_n 3, 1) := by decide +kernel
theorem dL_law_21 : decode cL_law 21 = .ok (.aload_n 1, 1) := by decide +kernel
theorem dL_law_22 : decode cL_law 22 = .ok (.bipush 120, 2) := by decide +kernel
theorem dL_law_24 : decode cL_law 24 = .ok (.invokevirtual 72, 3) := by decide +kernel
theorem dL_law_27 : decode cL_law 27 = .ok (.iconst 1, 1) := by decide +kernel
theorem dL_law_28 : decode cL_law 28 = .ok (.if_icmp .ne 58, 3) := by decide +kernel
theorem dL_law_31 : decode cL_law 31 = .ok (.aload_n 2, 1) := by decide +kernel
theorem dL_law_32 : decode cL_law 32 = .ok (.bipush 120, 2) := by decide +kernel
theorem dL_law_34 : decode cL_law 34 = .ok (.invokevirtual 72, 3) := by decide +kernel
theorem dL_law_37 : decode cL_law 37 = .ok (.iconst 1, 1) := by decide +kernel
theorem dL_law_38 : decode cL_law 38 = .ok (.if_icmp .ne 48, 3) := by decide +kernel
theorem dL_law_41 : decode cL_law 41 = .ok (.aload_n 1, 1) := by decide +kernel
theorem dL_law_42 : decode cL_law 42 = .ok (.bipush 90, 2) := by decide +kernel
theorem dL_law_44 : decode cL_law 44 = .ok (.invokevirtual 72, 3) := by decide +kernel
theorem dL_law_47 : decode cL_law 47 = .ok (.iconst 2, 1) := by decide +kernel
theorem dL_law_48 : decode cL_law 48 = .ok (.if_icmp .ne 38, 3) := by decide +kernel
theorem dL_law_51 : decode cL_law 51 = .ok (.aload_n 2, 1) := by decide +kernel
theorem dL_law_52 : decode cL_law 52 = .ok (.bipush 90, 2) := by decide +kernel
theorem dL_law_54 : decode cL_law 54 = .ok (.invokevirtual 72, 3) := by decide +kernel
theorem dL_law_57 : decode cL_law 57 = .ok (.iconst 2, 1) := by decide +kernel
theorem dL_law_58 : decode cL_law 58 = .ok (.if_icmp .ne 28, 3) := by decide +kernel
theorem dL_law_61 : decode cL_law 61 = .ok (.aload_n 2, 1) := by decide +kernel
theorem dL_law_62 : decode cL_law 62 = .ok (.sipush 400, 3) := by decide +kernel
theorem dL_law_65 : decode cL_law 65 = .ok (.invokevirtual 72, 3) := by decide +kernel
theorem dL_law_68 : decode cL_law 68 = .ok (.iconst 3, 1) := by decide +kernel
theorem dL_law_69 : decode cL_law 69 = .ok (.if_icmp .ne 17, 3) := by decide +kernel
theorem dL_law_72 : decode cL_law 72 = .ok (.aload_n 2, 1) := by decide +kernel
theorem dL_law_73 : decode cL_law 73 = .ok (.bipush 10, 2) := by decide +kernel
theorem dL_law_75 : decode cL_law 75 = .ok (.invokevirtual 72, 3) := by decide +kernel
theorem dL_law_78 : decode cL_law 78 = .ok (.iconst 4, 1) := by decide +kernel
theorem dL_law_79 : decode cL_law 79 = .ok (.if_icmp .ne 7, 3) := by decide +kernel
theorem dL_law_82 : decode cL_law 82 = .ok (.iconst 1, 1) := by decide +kernel
theorem dL_law_83 : decode cL_law 83 = .ok (.goto 4, 3) := by decide +kernel
theorem dL_law_86 : decode cL_law 86 = .ok (.iconst 0, 1) := by decide +kernel
theorem dL_law_87 : decode cL_law 87 = .ok (.istore 4, 2) := by decide +kernel
theorem dL_law_89 : decode cL_law 89 = .ok (.iconst 0, 1) := by decide +kernel
theorem dL_law_90 : decode cL_law 90 = .ok (.istore 5, 2) := by decide +kernel
theorem dL_law_92 : decode cL_law 92 = .ok (.iload 5, 2) := by decide +kernel
theorem dL_law_94 : decode cL_law 94 = .ok (.bipush 44, 2) := by decide +kernel
theorem dL_law_96 : decode cL_law 96 = .ok (.if_icmp .ge 50, 3) := by decide +kernel
theorem dL_law_99 : decode cL_law 99 = .ok (.iload 4, 2) := by decide +kernel
theorem dL_law_101 : decode cL_law 101 = .ok (.ifCond .eq 45, 3) := by decide +kernel
theorem dL_law_104 : decode cL_law 104 = .ok (.aload_n 1, 1) := by decide +kernel
theorem dL_law_105 : decode cL_law 105 = .ok (.aload_n 2, 1) := by decide +kernel
theorem dL_law_106 : decode cL_law 106 = .ok (.aload_n 3, 1) := by decide +kernel
theorem dL_law_107 : decode cL_law 107 = .ok (.aload_n 0, 1) := by decide +kernel
theorem dL_law_108 : decode cL_law 108 = .ok (.iload 5, 2) := by decide +kernel
theorem dL_law_110 : decode cL_law 110 = .ok (.invokestatic 75, 3) := by decide +kernel
theorem dL_law_113 : decode cL_law 113 = .ok (.invokestatic 79, 3) := by decide +kernel
theorem dL_law_116 : decode cL_law 116 = .ok (.ifCond .eq 21, 3) := by decide +kernel
theorem dL_law_119 : decode cL_law 119 = .ok (.iload 5, 2) := by decide +kernel
theorem dL_law_121 : decode cL_law 121 = .ok (.iconst 5, 1) := by decide +kernel
theorem dL_law_122 : decode cL_law 122 = .ok (.irem, 1) := by decide +kernel
theorem dL_law_123 : decode cL_law 123 = .ok (.ifCond .gt 10, 3) := by decide +kernel
theorem dL_law_126 : decode cL_law 126 = .ok (.aload_n 1, 1) := by decide +kernel
theorem dL_law_127 : decode cL_law 127 = .ok (.invokestatic 83, 3) := by decide +kernel
theorem dL_law_130 : decode cL_law 130 = .ok (.ifCond .eq 7, 3) := by decide +kernel
theorem dL_law_133 : decode cL_law 133 = .ok (.iconst 1, 1) := by decide +kernel
theorem dL_law_134 : decode cL_law 134 = .ok (.goto 4, 3) := by decide +kernel
theorem dL_law_137 : decode cL_law 137 = .ok (.iconst 0, 1) := by decide +kernel
theorem dL_law_138 : decode cL_law 138 = .ok (.istore 4, 2) := by decide +kernel
theorem dL_law_140 : decode cL_law 140 = .ok (.iinc 5 1, 3) := by decide +kernel
theorem dL_law_143 : decode cL_law 143 = .ok (.goto (-51), 3) := by decide +kernel
theorem dL_law_146 : decode cL_law 146 = .ok (.iload 4, 2) := by decide +kernel
theorem dL_law_148 : decode cL_law 148 = .ok (.ifCond .eq 22, 3) := by decide +kernel
theorem dL_law_151 : decode cL_law 151 = .ok (.aload_n 1, 1) := by decide +kernel
theorem dL_law_152 : decode cL_law 152 = .ok (.invokestatic 83, 3) := by decide +kernel
theorem dL_law_155 : decode cL_law 155 = .ok (.ifCond .eq 15, 3) := by decide +kernel
theorem dL_law_158 : decode cL_law 158 = .ok (.aload_n 1, 1) := by decide +kernel
theorem dL_law_159 : decode cL_law 159 = .ok (.aload_n 2, 1) := by decide +kernel
theorem dL_law_160 : decode cL_law 160 = .ok (.invokestatic 86, 3) := by decide +kernel
theorem dL_law_163 : decode cL_law 163 = .ok (.ifCond .eq 7, 3) := by decide +kernel
theorem dL_law_166 : decode cL_law 166 = .ok (.iconst 1, 1) := by decide +kernel
theorem dL_law_167 : decode cL_law 167 = .ok (.goto 4, 3) := by decide +kernel
theorem dL_law_170 : decode cL_law 170 = .ok (.iconst 0, 1) := by decide +kernel
theorem dL_law_171 : decode cL_law 171 = .ok (.ireturn, 1) := by decide +kernel
