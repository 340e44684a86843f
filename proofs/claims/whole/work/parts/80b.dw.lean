/-! How the law's instructions read. -/
theorem de_W_law_299 : decode code 299 = .ok (.aload_n 3, 1) := by decide +kernel
theorem de_W_law_300 : decode code 300 = .ok (.invokestatic 66, 3) := by decide +kernel
theorem de_W_law_303 : decode code 303 = .ok (.istore 5, 2) := by decide +kernel
theorem de_W_law_305 : decode code 305 = .ok (.aload_n 2, 1) := by decide +kernel
theorem de_W_law_306 : decode code 306 = .ok (.aload_n 0, 1) := by decide +kernel
theorem de_W_law_307 : decode code 307 = .ok (.iload 4, 2) := by decide +kernel
theorem de_W_law_309 : decode code 309 = .ok (.iconst 1, 1) := by decide +kernel
theorem de_W_law_310 : decode code 310 = .ok (.iadd, 1) := by decide +kernel
theorem de_W_law_311 : decode code 311 = .ok (.iaload, 1) := by decide +kernel
theorem de_W_law_312 : decode code 312 = .ok (.aload_n 0, 1) := by decide +kernel
theorem de_W_law_313 : decode code 313 = .ok (.iload 4, 2) := by decide +kernel
theorem de_W_law_315 : decode code 315 = .ok (.iconst 2, 1) := by decide +kernel
theorem de_W_law_316 : decode code 316 = .ok (.iadd, 1) := by decide +kernel
theorem de_W_law_317 : decode code 317 = .ok (.iaload, 1) := by decide +kernel
theorem de_W_law_318 : decode code 318 = .ok (.i2l, 1) := by decide +kernel
theorem de_W_law_319 : decode code 319 = .ok (.bipush 32, 2) := by decide +kernel
theorem de_W_law_321 : decode code 321 = .ok (.lshl, 1) := by decide +kernel
theorem de_W_law_322 : decode code 322 = .ok (.aload_n 0, 1) := by decide +kernel
theorem de_W_law_323 : decode code 323 = .ok (.iload 4, 2) := by decide +kernel
theorem de_W_law_325 : decode code 325 = .ok (.iconst 3, 1) := by decide +kernel
theorem de_W_law_326 : decode code 326 = .ok (.iadd, 1) := by decide +kernel
theorem de_W_law_327 : decode code 327 = .ok (.iaload, 1) := by decide +kernel
theorem de_W_law_328 : decode code 328 = .ok (.i2l, 1) := by decide +kernel
theorem de_W_law_329 : decode code 329 = .ok (.ldc2_w 54, 3) := by decide +kernel
theorem de_W_law_332 : decode code 332 = .ok (.land, 1) := by decide +kernel
theorem de_W_law_333 : decode code 333 = .ok (.lor, 1) := by decide +kernel
theorem de_W_law_334 : decode code 334 = .ok (.aload_n 0, 1) := by decide +kernel
theorem de_W_law_335 : decode code 335 = .ok (.iload 4, 2) := by decide +kernel
theorem de_W_law_337 : decode code 337 = .ok (.iconst 4, 1) := by decide +kernel
theorem de_W_law_338 : decode code 338 = .ok (.iadd, 1) := by decide +kernel
theorem de_W_law_339 : decode code 339 = .ok (.iaload, 1) := by decide +kernel
theorem de_W_law_340 : decode code 340 = .ok (.ifCond .eq 7, 3) := by decide +kernel
theorem de_W_law_343 : decode code 343 = .ok (.iconst 1, 1) := by decide +kernel
theorem de_W_law_344 : decode code 344 = .ok (.goto 4, 3) := by decide +kernel
theorem de_W_law_347 : decode code 347 = .ok (.iconst 0, 1) := by decide +kernel
theorem de_W_law_348 : decode code 348 = .ok (.invokevirtual 69, 3) := by decide +kernel
theorem de_W_law_351 : decode code 351 = .ok (.istore 6, 2) := by decide +kernel
theorem de_W_law_353 : decode code 353 = .ok (.aload_n 2, 1) := by decide +kernel
theorem de_W_law_354 : decode code 354 = .ok (.invokevirtual 62, 3) := by decide +kernel
theorem de_W_law_357 : decode code 357 = .ok (.iload 5, 2) := by decide +kernel
theorem de_W_law_359 : decode code 359 = .ok (.if_icmp .eq 5, 3) := by decide +kernel
theorem de_W_law_362 : decode code 362 = .ok (.iconst 0, 1) := by decide +kernel
theorem de_W_law_363 : decode code 363 = .ok (.ireturn, 1) := by decide +kernel
theorem de_W_law_364 : decode code 364 = .ok (.iload 5, 2) := by decide +kernel
theorem de_W_law_366 : decode code 366 = .ok (.ifCond .ne 22, 3) := by decide +kernel
theorem de_W_law_369 : decode code 369 = .ok (.aload_n 3, 1) := by decide +kernel
theorem de_W_law_370 : decode code 370 = .ok (.iconst 0, 1) := by decide +kernel
theorem de_W_law_371 : decode code 371 = .ok (.laload, 1) := by decide +kernel
theorem de_W_law_372 : decode code 372 = .ok (.iload 6, 2) := by decide +kernel
theorem de_W_law_374 : decode code 374 = .ok (.ifCond .eq 7, 3) := by decide +kernel
theorem de_W_law_377 : decode code 377 = .ok (.lconst 1, 1) := by decide +kernel
theorem de_W_law_378 : decode code 378 = .ok (.goto 4, 3) := by decide +kernel
theorem de_W_law_381 : decode code 381 = .ok (.lconst 0, 1) := by decide +kernel
theorem de_W_law_382 : decode code 382 = .ok (.lcmp, 1) := by decide +kernel
theorem de_W_law_383 : decode code 383 = .ok (.ifCond .eq 5, 3) := by decide +kernel
theorem de_W_law_386 : decode code 386 = .ok (.iconst 0, 1) := by decide +kernel
theorem de_W_law_387 : decode code 387 = .ok (.ireturn, 1) := by decide +kernel
theorem de_W_law_388 : decode code 388 = .ok (.goto 1013, 3) := by decide +kernel
theorem de_W_law_391 : decode code 391 = .ok (.aload_n 1, 1) := by decide +kernel
theorem de_W_law_392 : decode code 392 = .ok (.aload_n 0, 1) := by decide +kernel
theorem de_W_law_393 : decode code 393 = .ok (.iload 4, 2) := by decide +kernel
theorem de_W_law_395 : decode code 395 = .ok (.iconst 1, 1) := by decide +kernel
theorem de_W_law_396 : decode code 396 = .ok (.iadd, 1) := by decide +kernel
theorem de_W_law_397 : decode code 397 = .ok (.iaload, 1) := by decide +kernel
theorem de_W_law_398 : decode code 398 = .ok (.aload_n 0, 1) := by decide +kernel
theorem de_W_law_399 : decode code 399 = .ok (.iload 4, 2) := by decide +kernel
theorem de_W_law_401 : decode code 401 = .ok (.iconst 2, 1) := by decide +kernel
theorem de_W_law_402 : decode code 402 = .ok (.iadd, 1) := by decide +kernel
theorem de_W_law_403 : decode code 403 = .ok (.iaload, 1) := by decide +kernel
theorem de_W_law_404 : decode code 404 = .ok (.i2l, 1) := by decide +kernel
theorem de_W_law_405 : decode code 405 = .ok (.bipush 32, 2) := by decide +kernel
theorem de_W_law_407 : decode code 407 = .ok (.lshl, 1) := by decide +kernel
theorem de_W_law_408 : decode code 408 = .ok (.aload_n 0, 1) := by decide +kernel
theorem de_W_law_409 : decode code 409 = .ok (.iload 4, 2) := by decide +kernel
theorem de_W_law_411 : decode code 411 = .ok (.iconst 3, 1) := by decide +kernel
theorem de_W_law_412 : decode code 412 = .ok (.iadd, 1) := by decide +kernel
theorem de_W_law_413 : decode code 413 = .ok (.iaload, 1) := by decide +kernel
theorem de_W_law_414 : decode code 414 = .ok (.i2l, 1) := by decide +kernel
theorem de_W_law_415 : decode code 415 = .ok (.ldc2_w 54, 3) := by decide +kernel
theorem de_W_law_418 : decode code 418 = .ok (.land, 1) := by decide +kernel
theorem de_W_law_419 : decode code 419 = .ok (.lor, 1) := by decide +kernel
theorem de_W_law_420 : decode code 420 = .ok (.aload_n 0, 1) := by decide +kernel
theorem de_W_law_421 : decode code 421 = .ok (.iload 4, 2) := by decide +kernel
theorem de_W_law_423 : decode code 423 = .ok (.iconst 4, 1) := by decide +kernel
theorem de_W_law_424 : decode code 424 = .ok (.iadd, 1) := by decide +kernel
theorem de_W_law_425 : decode code 425 = .ok (.iaload, 1) := by decide +kernel
theorem de_W_law_426 : decode code 426 = .ok (.ifCond .eq 7, 3) := by decide +kernel
theorem de_W_law_429 : decode code 429 = .ok (.iconst 1, 1) := by decide +kernel
theorem de_W_law_430 : decode code 430 = .ok (.goto 4, 3) := by decide +kernel
theorem de_W_law_433 : decode code 433 = .ok (.iconst 0, 1) := by decide +kernel
theorem de_W_law_434 : decode code 434 = .ok (.aload_n 3, 1) := by decide +kernel
theorem de_W_law_435 : decode code 435 = .ok (.invokestatic 70, 3) := by decide +kernel
theorem de_W_law_438 : decode code 438 = .ok (.istore 5, 2) := by decide +kernel
theorem de_W_law_440 : decode code 440 = .ok (.aload_n 2, 1) := by decide +kernel
theorem de_W_law_441 : decode code 441 = .ok (.aload_n 0, 1) := by decide +kernel
theorem de_W_law_442 : decode code 442 = .ok (.iload 4, 2) := by decide +kernel
theorem de_W_law_444 : decode code 444 = .ok (.iconst 1, 1) := by decide +kernel
theorem de_W_law_445 : decode code 445 = .ok (.iadd, 1) := by decide +kernel
theorem de_W_law_446 : decode code 446 = .ok (.iaload, 1) := by decide +kernel
theorem de_W_law_447 : decode code 447 = .ok (.aload_n 0, 1) := by decide +kernel
theorem de_W_law_448 : decode code 448 = .ok (.iload 4, 2) := by decide +kernel
theorem de_W_law_450 : decode code 450 = .ok (.iconst 2, 1) := by decide +kernel
theorem de_W_law_451 : decode code 451 = .ok (.iadd, 1) := by decide +kernel
theorem de_W_law_452 : decode code 452 = .ok (.iaload, 1) := by decide +kernel
theorem de_W_law_453 : decode code 453 = .ok (.i2l, 1) := by decide +kernel
theorem de_W_law_454 : decode code 454 = .ok (.bipush 32, 2) := by decide +kernel
theorem de_W_law_456 : decode code 456 = .ok (.lshl, 1) := by decide +kernel
theorem de_W_law_457 : decode code 457 = .ok (.aload_n 0, 1) := by decide +kernel
theorem de_W_law_458 : decode code 458 = .ok (.iload 4, 2) := by decide +kernel
theorem de_W_law_460 : decode code 460 = .ok (.iconst 3, 1) := by decide +kernel
theorem de_W_law_461 : decode code 461 = .ok (.iadd, 1) := by decide +kernel
theorem de_W_law_462 : decode code 462 = .ok (.iaload, 1) := by decide +kernel
theorem de_W_law_463 : decode code 463 = .ok (.i2l, 1) := by decide +kernel
theorem de_W_law_464 : decode code 464 = .ok (.ldc2_w 54, 3) := by decide +kernel
theorem de_W_law_467 : decode code 467 = .ok (.land, 1) := by decide +kernel
theorem de_W_law_468 : decode code 468 = .ok (.lor, 1) := by decide +kernel
theorem de_W_law_469 : decode code 469 = .ok (.aload_n 0, 1) := by decide +kernel
theorem de_W_law_470 : decode code 470 = .ok (.iload 4, 2) := by decide +kernel
theorem de_W_law_472 : decode code 472 = .ok (.iconst 4, 1) := by decide +kernel
theorem de_W_law_473 : decode code 473 = .ok (.iadd, 1) := by decide +kernel
theorem de_W_law_474 : decode code 474 = .ok (.iaload, 1) := by decide +kernel
theorem de_W_law_475 : decode code 475 = .ok (.ifCond .eq 7, 3) := by decide +kernel
theorem de_W_law_478 : decode code 478 = .ok (.iconst 1, 1) := by decide +kernel
theorem de_W_law_479 : decode code 479 = .ok (.goto 4, 3) := by decide +kernel
theorem de_W_law_482 : decode code 482 = .ok (.iconst 0, 1) := by decide +kernel
theorem de_W_law_483 : decode code 483 = .ok (.invokevirtual 72, 3) := by decide +kernel
theorem de_W_law_486 : decode code 486 = .ok (.istore 6, 2) := by decide +kernel
theorem de_W_law_488 : decode code 488 = .ok (.aload_n 2, 1) := by decide +kernel
theorem de_W_law_489 : decode code 489 = .ok (.invokevirtual 62, 3) := by decide +kernel
theorem de_W_law_492 : decode code 492 = .ok (.iload 5, 2) := by decide +kernel
theorem de_W_law_494 : decode code 494 = .ok (.if_icmp .eq 5, 3) := by decide +kernel
theorem de_W_law_497 : decode code 497 = .ok (.iconst 0, 1) := by decide +kernel
theorem de_W_law_498 : decode code 498 = .ok (.ireturn, 1) := by decide +kernel
theorem de_W_law_499 : decode code 499 = .ok (.iload 5, 2) := by decide +kernel
theorem de_W_law_501 : decode code 501 = .ok (.ifCond .ne 22, 3) := by decide +kernel
theorem de_W_law_504 : decode code 504 = .ok (.aload_n 3, 1) := by decide +kernel
theorem de_W_law_505 : decode code 505 = .ok (.iconst 0, 1) := by decide +kernel
theorem de_W_law_506 : decode code 506 = .ok (.laload, 1) := by decide +kernel
theorem de_W_law_507 : decode code 507 = .ok (.iload 6, 2) := by decide +kernel
theorem de_W_law_509 : decode code 509 = .ok (.ifCond .eq 7, 3) := by decide +kernel
theorem de_W_law_512 : decode code 512 = .ok (.lconst 1, 1) := by decide +kernel
theorem de_W_law_513 : decode code 513 = .ok (.goto 4, 3) := by decide +kernel
theorem de_W_law_516 : decode code 516 = .ok (.lconst 0, 1) := by decide +kernel
theorem de_W_law_517 : decode code 517 = .ok (.lcmp, 1) := by decide +kernel
theorem de_W_law_518 : decode code 518 = .ok (.ifCond .eq 5, 3) := by decide +kernel
theorem de_W_law_521 : decode code 521 = .ok (.iconst 0, 1) := by decide +kernel
theorem de_W_law_522 : decode code 522 = .ok (.ireturn, 1) := by decide +kernel
theorem de_W_law_523 : decode code 523 = .ok (.goto 878, 3) := by decide +kernel
theorem de_W_law_526 : decode code 526 = .ok (.aload_n 1, 1) := by decide +kernel
theorem de_W_law_527 : decode code 527 = .ok (.aload_n 0, 1) := by decide +kernel
