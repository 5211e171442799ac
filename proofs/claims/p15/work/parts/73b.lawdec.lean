theorem dL_law_277 : decode code 277 = .ok (.iconst 2, 1) := by decide +kernel
theorem dL_law_278 : decode code 278 = .ok (.iadd, 1) := by decide +kernel
theorem dL_law_279 : decode code 279 = .ok (.iaload, 1) := by decide +kernel
theorem dL_law_280 : decode code 280 = .ok (.invokevirtual 94, 3) := by decide +kernel
theorem dL_law_283 : decode code 283 = .ok (.istore 7, 2) := by decide +kernel
theorem dL_law_285 : decode code 285 = .ok (.goto 447, 3) := by decide +kernel
theorem dL_law_288 : decode code 288 = .ok (.aload_n 1, 1) := by decide +kernel
theorem dL_law_289 : decode code 289 = .ok (.aload_n 0, 1) := by decide +kernel
theorem dL_law_290 : decode code 290 = .ok (.iload 5, 2) := by decide +kernel
theorem dL_law_292 : decode code 292 = .ok (.iconst 1, 1) := by decide +kernel
theorem dL_law_293 : decode code 293 = .ok (.iadd, 1) := by decide +kernel
theorem dL_law_294 : decode code 294 = .ok (.iaload, 1) := by decide +kernel
theorem dL_law_295 : decode code 295 = .ok (.aload_n 3, 1) := by decide +kernel
theorem dL_law_296 : decode code 296 = .ok (.invokestatic 95, 3) := by decide +kernel
theorem dL_law_299 : decode code 299 = .ok (.istore 6, 2) := by decide +kernel
theorem dL_law_301 : decode code 301 = .ok (.aload_n 2, 1) := by decide +kernel
theorem dL_law_302 : decode code 302 = .ok (.aload_n 0, 1) := by decide +kernel
theorem dL_law_303 : decode code 303 = .ok (.iload 5, 2) := by decide +kernel
theorem dL_law_305 : decode code 305 = .ok (.iconst 1, 1) := by decide +kernel
theorem dL_law_306 : decode code 306 = .ok (.iadd, 1) := by decide +kernel
theorem dL_law_307 : decode code 307 = .ok (.iaload, 1) := by decide +kernel
theorem dL_law_308 : decode code 308 = .ok (.invokevirtual 97, 3) := by decide +kernel
theorem dL_law_311 : decode code 311 = .ok (.istore 7, 2) := by decide +kernel
theorem dL_law_313 : decode code 313 = .ok (.goto 419, 3) := by decide +kernel
theorem dL_law_316 : decode code 316 = .ok (.aload_n 1, 1) := by decide +kernel
theorem dL_law_317 : decode code 317 = .ok (.aload_n 0, 1) := by decide +kernel
theorem dL_law_318 : decode code 318 = .ok (.iload 5, 2) := by decide +kernel
theorem dL_law_320 : decode code 320 = .ok (.iconst 1, 1) := by decide +kernel
theorem dL_law_321 : decode code 321 = .ok (.iadd, 1) := by decide +kernel
theorem dL_law_322 : decode code 322 = .ok (.iaload, 1) := by decide +kernel
theorem dL_law_323 : decode code 323 = .ok (.aload_n 0, 1) := by decide +kernel
theorem dL_law_324 : decode code 324 = .ok (.iload 5, 2) := by decide +kernel
theorem dL_law_326 : decode code 326 = .ok (.iconst 2, 1) := by decide +kernel
theorem dL_law_327 : decode code 327 = .ok (.iadd, 1) := by decide +kernel
theorem dL_law_328 : decode code 328 = .ok (.iaload, 1) := by decide +kernel
theorem dL_law_329 : decode code 329 = .ok (.ifCond .eq 7, 3) := by decide +kernel
theorem dL_law_332 : decode code 332 = .ok (.iconst 1, 1) := by decide +kernel
theorem dL_law_333 : decode code 333 = .ok (.goto 4, 3) := by decide +kernel
theorem dL_law_336 : decode code 336 = .ok (.iconst 0, 1) := by decide +kernel
theorem dL_law_337 : decode code 337 = .ok (.aload_n 3, 1) := by decide +kernel
theorem dL_law_338 : decode code 338 = .ok (.invokestatic 98, 3) := by decide +kernel
theorem dL_law_341 : decode code 341 = .ok (.istore 6, 2) := by decide +kernel
theorem dL_law_343 : decode code 343 = .ok (.aload_n 2, 1) := by decide +kernel
theorem dL_law_344 : decode code 344 = .ok (.aload_n 0, 1) := by decide +kernel
theorem dL_law_345 : decode code 345 = .ok (.iload 5, 2) := by decide +kernel
theorem dL_law_347 : decode code 347 = .ok (.iconst 1, 1) := by decide +kernel
theorem dL_law_348 : decode code 348 = .ok (.iadd, 1) := by decide +kernel
theorem dL_law_349 : decode code 349 = .ok (.iaload, 1) := by decide +kernel
theorem dL_law_350 : decode code 350 = .ok (.aload_n 0, 1) := by decide +kernel
theorem dL_law_351 : decode code 351 = .ok (.iload 5, 2) := by decide +kernel
theorem dL_law_353 : decode code 353 = .ok (.iconst 2, 1) := by decide +kernel
theorem dL_law_354 : decode code 354 = .ok (.iadd, 1) := by decide +kernel
theorem dL_law_355 : decode code 355 = .ok (.iaload, 1) := by decide +kernel
theorem dL_law_356 : decode code 356 = .ok (.ifCond .eq 7, 3) := by decide +kernel
theorem dL_law_359 : decode code 359 = .ok (.iconst 1, 1) := by decide +kernel
theorem dL_law_360 : decode code 360 = .ok (.goto 4, 3) := by decide +kernel
theorem dL_law_363 : decode code 363 = .ok (.iconst 0, 1) := by decide +kernel
theorem dL_law_364 : decode code 364 = .ok (.invokevirtual 101, 3) := by decide +kernel
theorem dL_law_367 : decode code 367 = .ok (.istore 7, 2) := by decide +kernel
theorem dL_law_369 : decode code 369 = .ok (.goto 363, 3) := by decide +kernel
theorem dL_law_372 : decode code 372 = .ok (.aload_n 1, 1) := by decide +kernel
theorem dL_law_373 : decode code 373 = .ok (.aload_n 0, 1) := by decide +kernel
theorem dL_law_374 : decode code 374 = .ok (.iload 5, 2) := by decide +kernel
theorem dL_law_376 : decode code 376 = .ok (.iconst 1, 1) := by decide +kernel
theorem dL_law_377 : decode code 377 = .ok (.iadd, 1) := by decide +kernel
theorem dL_law_378 : decode code 378 = .ok (.iaload, 1) := by decide +kernel
theorem dL_law_379 : decode code 379 = .ok (.aload_n 3, 1) := by decide +kernel
theorem dL_law_380 : decode code 380 = .ok (.invokestatic 102, 3) := by decide +kernel
theorem dL_law_383 : decode code 383 = .ok (.istore 6, 2) := by decide +kernel
theorem dL_law_385 : decode code 385 = .ok (.aload_n 2, 1) := by decide +kernel
theorem dL_law_386 : decode code 386 = .ok (.aload_n 0, 1) := by decide +kernel
theorem dL_law_387 : decode code 387 = .ok (.iload 5, 2) := by decide +kernel
theorem dL_law_389 : decode code 389 = .ok (.iconst 1, 1) := by decide +kernel
theorem dL_law_390 : decode code 390 = .ok (.iadd, 1) := by decide +kernel
theorem dL_law_391 : decode code 391 = .ok (.iaload, 1) := by decide +kernel
theorem dL_law_392 : decode code 392 = .ok (.invokevirtual 104, 3) := by decide +kernel
theorem dL_law_395 : decode code 395 = .ok (.istore 7, 2) := by decide +kernel
theorem dL_law_397 : decode code 397 = .ok (.goto 335, 3) := by decide +kernel
theorem dL_law_400 : decode code 400 = .ok (.aload_n 1, 1) := by decide +kernel
theorem dL_law_401 : decode code 401 = .ok (.aload_n 0, 1) := by decide +kernel
theorem dL_law_402 : decode code 402 = .ok (.iload 5, 2) := by decide +kernel
theorem dL_law_404 : decode code 404 = .ok (.iconst 1, 1) := by decide +kernel
theorem dL_law_405 : decode code 405 = .ok (.iadd, 1) := by decide +kernel
theorem dL_law_406 : decode code 406 = .ok (.iaload, 1) := by decide +kernel
theorem dL_law_407 : decode code 407 = .ok (.aload_n 0, 1) := by decide +kernel
theorem dL_law_408 : decode code 408 = .ok (.iload 5, 2) := by decide +kernel
theorem dL_law_410 : decode code 410 = .ok (.iconst 2, 1) := by decide +kernel
theorem dL_law_411 : decode code 411 = .ok (.iadd, 1) := by decide +kernel
theorem dL_law_412 : decode code 412 = .ok (.iaload, 1) := by decide +kernel
theorem dL_law_413 : decode code 413 = .ok (.i2d, 1) := by decide +kernel
theorem dL_law_414 : decode code 414 = .ok (.ldc2_w 105, 3) := by decide +kernel
theorem dL_law_417 : decode code 417 = .ok (.dmul, 1) := by decide +kernel
theorem dL_law_418 : decode code 418 = .ok (.aload_n 0, 1) := by decide +kernel
theorem dL_law_419 : decode code 419 = .ok (.iload 5, 2) := by decide +kernel
theorem dL_law_421 : decode code 421 = .ok (.iconst 3, 1) := by decide +kernel
theorem dL_law_422 : decode code 422 = .ok (.iadd, 1) := by decide +kernel
theorem dL_law_423 : decode code 423 = .ok (.iaload, 1) := by decide +kernel
theorem dL_law_424 : decode code 424 = .ok (.i2d, 1) := by decide +kernel
theorem dL_law_425 : decode code 425 = .ok (.ldc2_w 105, 3) := by decide +kernel
theorem dL_law_428 : decode code 428 = .ok (.dmul, 1) := by decide +kernel
theorem dL_law_429 : decode code 429 = .ok (.aload_n 3, 1) := by decide +kernel
theorem dL_law_430 : decode code 430 = .ok (.invokestatic 107, 3) := by decide +kernel
theorem dL_law_433 : decode code 433 = .ok (.istore 6, 2) := by decide +kernel
theorem dL_law_435 : decode code 435 = .ok (.aload_n 2, 1) := by decide +kernel
theorem dL_law_436 : decode code 436 = .ok (.aload_n 0, 1) := by decide +kernel
theorem dL_law_437 : decode code 437 = .ok (.iload 5, 2) := by decide +kernel
theorem dL_law_439 : decode code 439 = .ok (.iconst 1, 1) := by decide +kernel
theorem dL_law_440 : decode code 440 = .ok (.iadd, 1) := by decide +kernel
theorem dL_law_441 : decode code 441 = .ok (.iaload, 1) := by decide +kernel
theorem dL_law_442 : decode code 442 = .ok (.aload_n 0, 1) := by decide +kernel
theorem dL_law_443 : decode code 443 = .ok (.iload 5, 2) := by decide +kernel
theorem dL_law_445 : decode code 445 = .ok (.iconst 2, 1) := by decide +kernel
theorem dL_law_446 : decode code 446 = .ok (.iadd, 1) := by decide +kernel
theorem dL_law_447 : decode code 447 = .ok (.iaload, 1) := by decide +kernel
theorem dL_law_448 : decode code 448 = .ok (.i2d, 1) := by decide +kernel
theorem dL_law_449 : decode code 449 = .ok (.ldc2_w 105, 3) := by decide +kernel
theorem dL_law_452 : decode code 452 = .ok (.dmul, 1) := by decide +kernel
theorem dL_law_453 : decode code 453 = .ok (.aload_n 0, 1) := by decide +kernel
theorem dL_law_454 : decode code 454 = .ok (.iload 5, 2) := by decide +kernel
theorem dL_law_456 : decode code 456 = .ok (.iconst 3, 1) := by decide +kernel
theorem dL_law_457 : decode code 457 = .ok (.iadd, 1) := by decide +kernel
theorem dL_law_458 : decode code 458 = .ok (.iaload, 1) := by decide +kernel
theorem dL_law_459 : decode code 459 = .ok (.i2d, 1) := by decide +kernel
theorem dL_law_460 : decode code 460 = .ok (.ldc2_w 105, 3) := by decide +kernel
theorem dL_law_463 : decode code 463 = .ok (.dmul, 1) := by decide +kernel
theorem dL_law_464 : decode code 464 = .ok (.invokevirtual 110, 3) := by decide +kernel
theorem dL_law_467 : decode code 467 = .ok (.istore 7, 2) := by decide +kernel
theorem dL_law_469 : decode code 469 = .ok (.goto 263, 3) := by decide +kernel
theorem dL_law_472 : decode code 472 = .ok (.aload_n 1, 1) := by decide +kernel
theorem dL_law_473 : decode code 473 = .ok (.aload_n 0, 1) := by decide +kernel
theorem dL_law_474 : decode code 474 = .ok (.iload 5, 2) := by decide +kernel
theorem dL_law_476 : decode code 476 = .ok (.iconst 1, 1) := by decide +kernel
theorem dL_law_477 : decode code 477 = .ok (.iadd, 1) := by decide +kernel
theorem dL_law_478 : decode code 478 = .ok (.iaload, 1) := by decide +kernel
theorem dL_law_479 : decode code 479 = .ok (.i2d, 1) := by decide +kernel
theorem dL_law_480 : decode code 480 = .ok (.ldc2_w 105, 3) := by decide +kernel
theorem dL_law_483 : decode code 483 = .ok (.dmul, 1) := by decide +kernel
theorem dL_law_484 : decode code 484 = .ok (.aload_n 3, 1) := by decide +kernel
theorem dL_law_485 : decode code 485 = .ok (.invokestatic 111, 3) := by decide +kernel
theorem dL_law_488 : decode code 488 = .ok (.istore 6, 2) := by decide +kernel
