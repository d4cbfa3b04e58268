theorem d_La_0 : decode code 0 = .ok (.new 7, 3) := by decide +kernel
theorem d_La_3 : decode code 3 = .ok (.dup, 1) := by decide +kernel
theorem d_La_4 : decode code 4 = .ok (.invokespecial 9, 3) := by decide +kernel
theorem d_La_7 : decode code 7 = .ok (.astore_n 1, 1) := by decide +kernel
theorem d_La_8 : decode code 8 = .ok (.new 10, 3) := by decide +kernel
theorem d_La_11 : decode code 11 = .ok (.dup, 1) := by decide +kernel
theorem d_La_12 : decode code 12 = .ok (.invokespecial 12, 3) := by decide +kernel
theorem d_La_15 : decode code 15 = .ok (.astore_n 2, 1) := by decide +kernel
theorem d_La_16 : decode code 16 = .ok (.iconst 0, 1) := by decide +kernel
theorem d_La_17 : decode code 17 = .ok (.istore_n 3, 1) := by decide +kernel
theorem d_La_18 : decode code 18 = .ok (.iload_n 3, 1) := by decide +kernel
theorem d_La_19 : decode code 19 = .ok (.aload_n 0, 1) := by decide +kernel
theorem d_La_20 : decode code 20 = .ok (.arraylength, 1) := by decide +kernel
theorem d_La_21 : decode code 21 = .ok (.bipush 6, 2) := by decide +kernel
theorem d_La_23 : decode code 23 = .ok (.isub, 1) := by decide +kernel
theorem d_La_24 : decode code 24 = .ok (.if_icmp .gt 1987, 3) := by decide +kernel
theorem d_La_27 : decode code 27 = .ok (.aload_n 0, 1) := by decide +kernel
theorem d_La_28 : decode code 28 = .ok (.iload_n 3, 1) := by decide +kernel
theorem d_La_29 : decode code 29 = .ok (.iaload, 1) := by decide +kernel
theorem d_La_30 : decode code 30 = .ok (.bipush 63, 2) := by decide +kernel
theorem d_La_32 : decode code 32 = .ok (.iand, 1) := by decide +kernel
theorem d_La_33 : decode code 33 = .ok (.tableswitch 1972 0 60 #[259, 292, 325, 388, 411, 424, 447, 470, 493, 526, 549, 572, 605, 618, 651, 684, 707, 740, 773, 796, 809, 822, 871, 894, 917, 930, 943, 986, 1035, 1078, 1111, 1144, 1183, 1216, 1255, 1288, 1311, 1371, 1421, 1444, 1457, 1470, 1483, 1506, 1529, 1562, 1585, 1598, 1637, 1680, 1739, 1772, 1805, 1828, 1861, 1874, 1887, 1900, 1923, 1936, 1949], 259) := by decide +kernel
theorem d_La_292 : decode code 292 = .ok (.aload_n 1, 1) := by decide +kernel
theorem d_La_293 : decode code 293 = .ok (.aload_n 0, 1) := by decide +kernel
theorem d_La_294 : decode code 294 = .ok (.iload_n 3, 1) := by decide +kernel
theorem d_La_295 : decode code 295 = .ok (.iconst 1, 1) := by decide +kernel
theorem d_La_296 : decode code 296 = .ok (.iadd, 1) := by decide +kernel
theorem d_La_297 : decode code 297 = .ok (.iaload, 1) := by decide +kernel
theorem d_La_298 : decode code 298 = .ok (.aload_n 0, 1) := by decide +kernel
theorem d_La_299 : decode code 299 = .ok (.iload_n 3, 1) := by decide +kernel
theorem d_La_300 : decode code 300 = .ok (.iconst 2, 1) := by decide +kernel
theorem d_La_301 : decode code 301 = .ok (.iadd, 1) := by decide +kernel
theorem d_La_302 : decode code 302 = .ok (.iaload, 1) := by decide +kernel
theorem d_La_303 : decode code 303 = .ok (.invokevirtual 13, 3) := by decide +kernel
theorem d_La_306 : decode code 306 = .ok (.aload_n 2, 1) := by decide +kernel
theorem d_La_307 : decode code 307 = .ok (.aload_n 0, 1) := by decide +kernel
theorem d_La_308 : decode code 308 = .ok (.iload_n 3, 1) := by decide +kernel
theorem d_La_309 : decode code 309 = .ok (.iconst 1, 1) := by decide +kernel
theorem d_La_310 : decode code 310 = .ok (.iadd, 1) := by decide +kernel
theorem d_La_311 : decode code 311 = .ok (.iaload, 1) := by decide +kernel
theorem d_La_312 : decode code 312 = .ok (.aload_n 0, 1) := by decide +kernel
theorem d_La_313 : decode code 313 = .ok (.iload_n 3, 1) := by decide +kernel
theorem d_La_314 : decode code 314 = .ok (.iconst 2, 1) := by decide +kernel
theorem d_La_315 : decode code 315 = .ok (.iadd, 1) := by decide +kernel
theorem d_La_316 : decode code 316 = .ok (.iaload, 1) := by decide +kernel
theorem d_La_317 : decode code 317 = .ok (.invokevirtual 17, 3) := by decide +kernel
theorem d_La_320 : decode code 320 = .ok (.if_icmp .eq 1685, 3) := by decide +kernel
theorem d_La_323 : decode code 323 = .ok (.iconst 0, 1) := by decide +kernel
theorem d_La_324 : decode code 324 = .ok (.ireturn, 1) := by decide +kernel
theorem d_La_325 : decode code 325 = .ok (.aload_n 1, 1) := by decide +kernel
theorem d_La_326 : decode code 326 = .ok (.aload_n 0, 1) := by decide +kernel
theorem d_La_327 : decode code 327 = .ok (.iload_n 3, 1) := by decide +kernel
theorem d_La_328 : decode code 328 = .ok (.iconst 1, 1) := by decide +kernel
theorem d_La_329 : decode code 329 = .ok (.iadd, 1) := by decide +kernel
theorem d_La_330 : decode code 330 = .ok (.iaload, 1) := by decide +kernel
theorem d_La_331 : decode code 331 = .ok (.aload_n 0, 1) := by decide +kernel
theorem d_La_332 : decode code 332 = .ok (.iload_n 3, 1) := by decide +kernel
theorem d_La_333 : decode code 333 = .ok (.iconst 2, 1) := by decide +kernel
theorem d_La_334 : decode code 334 = .ok (.iadd, 1) := by decide +kernel
theorem d_La_335 : decode code 335 = .ok (.iaload, 1) := by decide +kernel
theorem d_La_336 : decode code 336 = .ok (.invokevirtual 18, 3) := by decide +kernel
theorem d_La_339 : decode code 339 = .ok (.aload_n 2, 1) := by decide +kernel
theorem d_La_340 : decode code 340 = .ok (.aload_n 0, 1) := by decide +kernel
theorem d_La_341 : decode code 341 = .ok (.iload_n 3, 1) := by decide +kernel
theorem d_La_342 : decode code 342 = .ok (.iconst 1, 1) := by decide +kernel
theorem d_La_343 : decode code 343 = .ok (.iadd, 1) := by decide +kernel
theorem d_La_344 : decode code 344 = .ok (.iaload, 1) := by decide +kernel
theorem d_La_345 : decode code 345 = .ok (.aload_n 0, 1) := by decide +kernel
theorem d_La_346 : decode code 346 = .ok (.iload_n 3, 1) := by decide +kernel
theorem d_La_347 : decode code 347 = .ok (.iconst 2, 1) := by decide +kernel
theorem d_La_348 : decode code 348 = .ok (.iadd, 1) := by decide +kernel
theorem d_La_349 : decode code 349 = .ok (.iaload, 1) := by decide +kernel
theorem d_La_350 : decode code 350 = .ok (.invokevirtual 22, 3) := by decide +kernel
theorem d_La_353 : decode code 353 = .ok (.if_icmp .eq 1652, 3) := by decide +kernel
theorem d_La_356 : decode code 356 = .ok (.iconst 0, 1) := by decide +kernel
theorem d_La_357 : decode code 357 = .ok (.ireturn, 1) := by decide +kernel
theorem d_La_358 : decode code 358 = .ok (.aload_n 1, 1) := by decide +kernel
theorem d_La_359 : decode code 359 = .ok (.aload_n 0, 1) := by decide +kernel
theorem d_La_360 : decode code 360 = .ok (.iload_n 3, 1) := by decide +kernel
theorem d_La_361 : decode code 361 = .ok (.iconst 1, 1) := by decide +kernel
theorem d_La_362 : decode code 362 = .ok (.iadd, 1) := by decide +kernel
theorem d_La_363 : decode code 363 = .ok (.iaload, 1) := by decide +kernel
theorem d_La_364 : decode code 364 = .ok (.aload_n 0, 1) := by decide +kernel
theorem d_La_365 : decode code 365 = .ok (.iload_n 3, 1) := by decide +kernel
theorem d_La_366 : decode code 366 = .ok (.iconst 2, 1) := by decide +kernel
theorem d_La_367 : decode code 367 = .ok (.iadd, 1) := by decide +kernel
theorem d_La_368 : decode code 368 = .ok (.iaload, 1) := by decide +kernel
theorem d_La_369 : decode code 369 = .ok (.aload_n 0, 1) := by decide +kernel
theorem d_La_370 : decode code 370 = .ok (.iload_n 3, 1) := by decide +kernel
theorem d_La_371 : decode code 371 = .ok (.iconst 3, 1) := by decide +kernel
theorem d_La_372 : decode code 372 = .ok (.iadd, 1) := by decide +kernel
theorem d_La_373 : decode code 373 = .ok (.iaload, 1) := by decide +kernel
theorem d_La_374 : decode code 374 = .ok (.aload_n 0, 1) := by decide +kernel
theorem d_La_375 : decode code 375 = .ok (.iload_n 3, 1) := by decide +kernel
theorem d_La_376 : decode code 376 = .ok (.iconst 4, 1) := by decide +kernel
theorem d_La_377 : decode code 377 = .ok (.iadd, 1) := by decide +kernel
theorem d_La_378 : decode code 378 = .ok (.iaload, 1) := by decide +kernel
theorem d_La_379 : decode code 379 = .ok (.aload_n 0, 1) := by decide +kernel
theorem d_La_380 : decode code 380 = .ok (.iload_n 3, 1) := by decide +kernel
theorem d_La_381 : decode code 381 = .ok (.iconst 5, 1) := by decide +kernel
theorem d_La_382 : decode code 382 = .ok (.iadd, 1) := by decide +kernel
theorem d_La_383 : decode code 383 = .ok (.iaload, 1) := by decide +kernel
theorem d_La_384 : decode code 384 = .ok (.invokevirtual 23, 3) := by decide +kernel
theorem d_La_387 : decode code 387 = .ok (.aload_n 2, 1) := by decide +kernel
theorem d_La_388 : decode code 388 = .ok (.aload_n 0, 1) := by decide +kernel
theorem d_La_389 : decode code 389 = .ok (.iload_n 3, 1) := by decide +kernel
theorem d_La_390 : decode code 390 = .ok (.iconst 1, 1) := by decide +kernel
theorem d_La_391 : decode code 391 = .ok (.iadd, 1) := by decide +kernel
theorem d_La_392 : decode code 392 = .ok (.iaload, 1) := by decide +kernel
theorem d_La_393 : decode code 393 = .ok (.aload_n 0, 1) := by decide +kernel
theorem d_La_394 : decode code 394 = .ok (.iload_n 3, 1) := by decide +kernel
theorem d_La_395 : decode code 395 = .ok (.iconst 2, 1) := by decide +kernel
theorem d_La_396 : decode code 396 = .ok (.iadd, 1) := by decide +kernel
theorem d_La_397 : decode code 397 = .ok (.iaload, 1) := by decide +kernel
theorem d_La_398 : decode code 398 = .ok (.aload_n 0, 1) := by decide +kernel
theorem d_La_399 : decode code 399 = .ok (.iload_n 3, 1) := by decide +kernel
theorem d_La_400 : decode code 400 = .ok (.iconst 3, 1) := by decide +kernel
theorem d_La_401 : decode code 401 = .ok (.iadd, 1) := by decide +kernel
theorem d_La_402 : decode code 402 = .ok (.iaload, 1) := by decide +kernel
theorem d_La_403 : decode code 403 = .ok (.aload_n 0, 1) := by decide +kernel
theorem d_La_404 : decode code 404 = .ok (.iload_n 3, 1) := by decide +kernel
theorem d_La_405 : decode code 405 = .ok (.iconst 4, 1) := by decide +kernel
theorem d_La_406 : decode code 406 = .ok (.iadd, 1) := by decide +kernel
theorem d_La_407 : decode code 407 = .ok (.iaload, 1) := by decide +kernel
theorem d_La_408 : decode code 408 = .ok (.aload_n 0, 1) := by decide +kernel
theorem d_La_409 : decode code 409 = .ok (.iload_n 3, 1) := by decide +kernel
theorem d_La_410 : decode code 410 = .ok (.iconst 5, 1) := by decide +kernel
theorem d_La_411 : decode code 411 = .ok (.iadd, 1) := by decide +kernel
theorem d_La_412 : decode code 412 = .ok (.iaload, 1) := by decide +kernel
theorem d_La_413 : decode code 413 = .ok (.invokevirtual 27, 3) := by decide +kernel
theorem d_La_416 : decode code 416 = .ok (.if_icmp .eq 1589, 3) := by decide +kernel
theorem d_La_419 : decode code 419 = .ok (.iconst 0, 1) := by decide +kernel
theorem d_La_420 : decode code 420 = .ok (.ireturn, 1) := by decide +kernel
theorem d_La_421 : decode code 421 = .ok (.aload_n 1, 1) := by decide +kernel
theorem d_La_422 : decode code 422 = .ok (.aload_n 0, 1) := by decide +kernel
theorem d_La_423 : decode code 423 = .ok (.iload_n 3, 1) := by decide +kernel
theorem d_La_424 : decode code 424 = .ok (.iconst 1, 1) := by decide +kernel
theorem d_La_425 : decode code 425 = .ok (.iadd, 1) := by decide +kernel
theorem d_La_426 : decode code 426 = .ok (.iaload, 1) := by decide +kernel
theorem d_La_427 : decode code 427 = .ok (.invokevirtual 28, 3) := by decide +kernel
theorem d_La_430 : decode code 430 = .ok (.aload_n 2, 1) := by decide +kernel
theorem d_La_431 : decode code 431 = .ok (.aload_n 0, 1) := by decide +kernel
theorem d_La_432 : decode code 432 = .ok (.iload_n 3, 1) := by decide +kernel
theorem d_La_433 : decode code 433 = .ok (.iconst 1, 1) := by decide +kernel
theorem d_La_434 : decode code 434 = .ok (.iadd, 1) := by decide +kernel
theorem d_La_435 : decode code 435 = .ok (.iaload, 1) := by decide +kernel
theorem d_La_436 : decode code 436 = .ok (.invokevirtual 32, 3) := by decide +kernel
theorem d_La_439 : decode code 439 = .ok (.if_icmp .eq 1566, 3) := by decide +kernel
theorem d_La_442 : decode code 442 = .ok (.iconst 0, 1) := by decide +kernel
theorem d_La_443 : decode code 443 = .ok (.ireturn, 1) := by decide +kernel
theorem d_La_444 : decode code 444 = .ok (.aload_n 1, 1) := by decide +kernel
theorem d_La_445 : decode code 445 = .ok (.invokevirtual 33, 3) := by decide +kernel
theorem d_La_448 : decode code 448 = .ok (.aload_n 2, 1) := by decide +kernel
theorem d_La_449 : decode code 449 = .ok (.invokevirtual 37, 3) := by decide +kernel
theorem d_La_452 : decode code 452 = .ok (.if_icmp .eq 1553, 3) := by decide +kernel
theorem d_La_455 : decode code 455 = .ok (.iconst 0, 1) := by decide +kernel
theorem d_La_456 : decode code 456 = .ok (.ireturn, 1) := by decide +kernel
theorem d_La_457 : decode code 457 = .ok (.aload_n 1, 1) := by decide +kernel
theorem d_La_458 : decode code 458 = .ok (.aload_n 0, 1) := by decide +kernel
theorem d_La_459 : decode code 459 = .ok (.iload_n 3, 1) := by decide +kernel
theorem d_La_460 : decode code 460 = .ok (.iconst 1, 1) := by decide +kernel
theorem d_La_461 : decode code 461 = .ok (.iadd, 1) := by decide +kernel
theorem d_La_462 : decode code 462 = .ok (.iaload, 1) := by decide +kernel
theorem d_La_463 : decode code 463 = .ok (.invokevirtual 38, 3) := by decide +kernel
theorem d_La_466 : decode code 466 = .ok (.aload_n 2, 1) := by decide +kernel
theorem d_La_467 : decode code 467 = .ok (.aload_n 0, 1) := by decide +kernel
theorem d_La_468 : decode code 468 = .ok (.iload_n 3, 1) := by decide +kernel
theorem d_La_469 : decode code 469 = .ok (.iconst 1, 1) := by decide +kernel
theorem d_La_470 : decode code 470 = .ok (.iadd, 1) := by decide +kernel
theorem d_La_471 : decode code 471 = .ok (.iaload, 1) := by decide +kernel
theorem d_La_472 : decode code 472 = .ok (.invokevirtual 41, 3) := by decide +kernel
theorem d_La_475 : decode code 475 = .ok (.if_icmp .eq 1530, 3) := by decide +kernel
theorem d_La_478 : decode code 478 = .ok (.iconst 0, 1) := by decide +kernel
theorem d_La_479 : decode code 479 = .ok (.ireturn, 1) := by decide +kernel
theorem d_La_480 : decode code 480 = .ok (.aload_n 1, 1) := by decide +kernel
theorem d_La_481 : decode code 481 = .ok (.aload_n 0, 1) := by decide +kernel
theorem d_La_482 : decode code 482 = .ok (.iload_n 3, 1) := by decide +kernel
theorem d_La_483 : decode code 483 = .ok (.iconst 1, 1) := by decide +kernel
theorem d_La_484 : decode code 484 = .ok (.iadd, 1) := by decide +kernel
theorem d_La_485 : decode code 485 = .ok (.iaload, 1) := by decide +kernel
theorem d_La_486 : decode code 486 = .ok (.invokevirtual 42, 3) := by decide +kernel
theorem d_La_489 : decode code 489 = .ok (.aload_n 2, 1) := by decide +kernel
theorem d_La_490 : decode code 490 = .ok (.aload_n 0, 1) := by decide +kernel
theorem d_La_491 : decode code 491 = .ok (.iload_n 3, 1) := by decide +kernel
theorem d_La_492 : decode code 492 = .ok (.iconst 1, 1) := by decide +kernel
theorem d_La_493 : decode code 493 = .ok (.iadd, 1) := by decide +kernel
theorem d_La_494 : decode code 494 = .ok (.iaload, 1) := by decide +kernel
theorem d_La_495 : decode code 495 = .ok (.invokevirtual 46, 3) := by decide +kernel
theorem d_La_498 : decode code 498 = .ok (.if_icmp .eq 1507, 3) := by decide +kernel
theorem d_La_501 : decode code 501 = .ok (.iconst 0, 1) := by decide +kernel
theorem d_La_502 : decode code 502 = .ok (.ireturn, 1) := by decide +kernel
theorem d_La_503 : decode code 503 = .ok (.aload_n 1, 1) := by decide +kernel
theorem d_La_504 : decode code 504 = .ok (.aload_n 0, 1) := by decide +kernel
theorem d_La_505 : decode code 505 = .ok (.iload_n 3, 1) := by decide +kernel
theorem d_La_506 : decode code 506 = .ok (.iconst 1, 1) := by decide +kernel
theorem d_La_507 : decode code 507 = .ok (.iadd, 1) := by decide +kernel
theorem d_La_508 : decode code 508 = .ok (.iaload, 1) := by decide +kernel
theorem d_La_509 : decode code 509 = .ok (.invokevirtual 47, 3) := by decide +kernel
theorem d_La_512 : decode code 512 = .ok (.aload_n 2, 1) := by decide +kernel
theorem d_La_513 : decode code 513 = .ok (.aload_n 0, 1) := by decide +kernel
theorem d_La_514 : decode code 514 = .ok (.iload_n 3, 1) := by decide +kernel
theorem d_La_515 : decode code 515 = .ok (.iconst 1, 1) := by decide +kernel
theorem d_La_516 : decode code 516 = .ok (.iadd, 1) := by decide +kernel
theorem d_La_517 : decode code 517 = .ok (.iaload, 1) := by decide +kernel
theorem d_La_518 : decode code 518 = .ok (.invokevirtual 50, 3) := by decide +kernel
theorem d_La_521 : decode code 521 = .ok (.if_icmp .eq 1484, 3) := by decide +kernel
theorem d_La_524 : decode code 524 = .ok (.iconst 0, 1) := by decide +kernel
theorem d_La_525 : decode code 525 = .ok (.ireturn, 1) := by decide +kernel
theorem d_La_526 : decode code 526 = .ok (.aload_n 1, 1) := by decide +kernel
theorem d_La_527 : decode code 527 = .ok (.aload_n 0, 1) := by decide +kernel
theorem d_La_528 : decode code 528 = .ok (.iload_n 3, 1) := by decide +kernel
theorem d_La_529 : decode code 529 = .ok (.iconst 1, 1) := by decide +kernel
theorem d_La_530 : decode code 530 = .ok (.iadd, 1) := by decide +kernel
theorem d_La_531 : decode code 531 = .ok (.iaload, 1) := by decide +kernel
theorem d_La_532 : decode code 532 = .ok (.aload_n 0, 1) := by decide +kernel
theorem d_La_533 : decode code 533 = .ok (.iload_n 3, 1) := by decide +kernel
theorem d_La_534 : decode code 534 = .ok (.iconst 2, 1) := by decide +kernel
theorem d_La_535 : decode code 535 = .ok (.iadd, 1) := by decide +kernel
theorem d_La_536 : decode code 536 = .ok (.iaload, 1) := by decide +kernel
theorem d_La_537 : decode code 537 = .ok (.invokevirtual 51, 3) := by decide +kernel
