theorem dL_law_0 : decode code 0 = .ok (.new 7, 3) := by decide +kernel
theorem dL_law_3 : decode code 3 = .ok (.dup, 1) := by decide +kernel
theorem dL_law_4 : decode code 4 = .ok (.invokespecial 9, 3) := by decide +kernel
theorem dL_law_7 : decode code 7 = .ok (.astore_n 1, 1) := by decide +kernel
theorem dL_law_8 : decode code 8 = .ok (.new 10, 3) := by decide +kernel
theorem dL_law_11 : decode code 11 = .ok (.dup, 1) := by decide +kernel
theorem dL_law_12 : decode code 12 = .ok (.invokespecial 12, 3) := by decide +kernel
theorem dL_law_15 : decode code 15 = .ok (.astore_n 2, 1) := by decide +kernel
theorem dL_law_16 : decode code 16 = .ok (.iconst 0, 1) := by decide +kernel
theorem dL_law_17 : decode code 17 = .ok (.istore_n 3, 1) := by decide +kernel
theorem dL_law_18 : decode code 18 = .ok (.iload_n 3, 1) := by decide +kernel
theorem dL_law_19 : decode code 19 = .ok (.aload_n 0, 1) := by decide +kernel
theorem dL_law_20 : decode code 20 = .ok (.arraylength, 1) := by decide +kernel
theorem dL_law_21 : decode code 21 = .ok (.bipush 6, 2) := by decide +kernel
theorem dL_law_23 : decode code 23 = .ok (.isub, 1) := by decide +kernel
theorem dL_law_24 : decode code 24 = .ok (.if_icmp .gt 1864, 3) := by decide +kernel
theorem dL_law_27 : decode code 27 = .ok (.aload_n 0, 1) := by decide +kernel
theorem dL_law_28 : decode code 28 = .ok (.iload_n 3, 1) := by decide +kernel
theorem dL_law_29 : decode code 29 = .ok (.iaload, 1) := by decide +kernel
theorem dL_law_30 : decode code 30 = .ok (.bipush 63, 2) := by decide +kernel
theorem dL_law_32 : decode code 32 = .ok (.iand, 1) := by decide +kernel
theorem dL_law_33 : decode code 33 = .ok (.tableswitch 1849 0 61 #[263, 276, 289, 302, 345, 418, 451, 514, 577, 600, 623, 646, 669, 682, 715, 748, 781, 814, 847, 870, 883, 896, 909, 922, 955, 998, 1021, 1064, 1077, 1100, 1113, 1146, 1169, 1192, 1235, 1258, 1271, 1284, 1307, 1320, 1333, 1356, 1369, 1392, 1405, 1428, 1451, 1474, 1487, 1500, 1523, 1556, 1579, 1602, 1625, 1668, 1701, 1734, 1757, 1780, 1823, 1836], 263) := by decide +kernel
theorem dL_law_296 : decode code 296 = .ok (.aload_n 1, 1) := by decide +kernel
theorem dL_law_297 : decode code 297 = .ok (.invokevirtual 13, 3) := by decide +kernel
theorem dL_law_300 : decode code 300 = .ok (.pop, 1) := by decide +kernel
theorem dL_law_301 : decode code 301 = .ok (.aload_n 2, 1) := by decide +kernel
theorem dL_law_302 : decode code 302 = .ok (.invokevirtual 17, 3) := by decide +kernel
theorem dL_law_305 : decode code 305 = .ok (.pop, 1) := by decide +kernel
theorem dL_law_306 : decode code 306 = .ok (.goto 1576, 3) := by decide +kernel
theorem dL_law_309 : decode code 309 = .ok (.aload_n 1, 1) := by decide +kernel
theorem dL_law_310 : decode code 310 = .ok (.invokevirtual 18, 3) := by decide +kernel
theorem dL_law_313 : decode code 313 = .ok (.pop2, 1) := by decide +kernel
theorem dL_law_314 : decode code 314 = .ok (.aload_n 2, 1) := by decide +kernel
theorem dL_law_315 : decode code 315 = .ok (.invokevirtual 22, 3) := by decide +kernel
theorem dL_law_318 : decode code 318 = .ok (.pop2, 1) := by decide +kernel
theorem dL_law_319 : decode code 319 = .ok (.goto 1563, 3) := by decide +kernel
theorem dL_law_322 : decode code 322 = .ok (.aload_n 1, 1) := by decide +kernel
theorem dL_law_323 : decode code 323 = .ok (.invokevirtual 23, 3) := by decide +kernel
theorem dL_law_326 : decode code 326 = .ok (.pop2, 1) := by decide +kernel
theorem dL_law_327 : decode code 327 = .ok (.aload_n 2, 1) := by decide +kernel
theorem dL_law_328 : decode code 328 = .ok (.invokevirtual 26, 3) := by decide +kernel
theorem dL_law_331 : decode code 331 = .ok (.pop2, 1) := by decide +kernel
theorem dL_law_332 : decode code 332 = .ok (.goto 1550, 3) := by decide +kernel
theorem dL_law_335 : decode code 335 = .ok (.aload_n 1, 1) := by decide +kernel
theorem dL_law_336 : decode code 336 = .ok (.aload_n 0, 1) := by decide +kernel
theorem dL_law_337 : decode code 337 = .ok (.iload_n 3, 1) := by decide +kernel
theorem dL_law_338 : decode code 338 = .ok (.iconst 1, 1) := by decide +kernel
theorem dL_law_339 : decode code 339 = .ok (.iadd, 1) := by decide +kernel
theorem dL_law_340 : decode code 340 = .ok (.iaload, 1) := by decide +kernel
theorem dL_law_341 : decode code 341 = .ok (.aload_n 0, 1) := by decide +kernel
theorem dL_law_342 : decode code 342 = .ok (.iload_n 3, 1) := by decide +kernel
theorem dL_law_343 : decode code 343 = .ok (.iconst 2, 1) := by decide +kernel
theorem dL_law_344 : decode code 344 = .ok (.iadd, 1) := by decide +kernel
theorem dL_law_345 : decode code 345 = .ok (.iaload, 1) := by decide +kernel
theorem dL_law_346 : decode code 346 = .ok (.aload_n 0, 1) := by decide +kernel
theorem dL_law_347 : decode code 347 = .ok (.iload_n 3, 1) := by decide +kernel
theorem dL_law_348 : decode code 348 = .ok (.iconst 3, 1) := by decide +kernel
theorem dL_law_349 : decode code 349 = .ok (.iadd, 1) := by decide +kernel
theorem dL_law_350 : decode code 350 = .ok (.iaload, 1) := by decide +kernel
theorem dL_law_351 : decode code 351 = .ok (.invokevirtual 27, 3) := by decide +kernel
theorem dL_law_354 : decode code 354 = .ok (.pop, 1) := by decide +kernel
theorem dL_law_355 : decode code 355 = .ok (.aload_n 2, 1) := by decide +kernel
theorem dL_law_356 : decode code 356 = .ok (.aload_n 0, 1) := by decide +kernel
theorem dL_law_357 : decode code 357 = .ok (.iload_n 3, 1) := by decide +kernel
theorem dL_law_358 : decode code 358 = .ok (.iconst 1, 1) := by decide +kernel
theorem dL_law_359 : decode code 359 = .ok (.iadd, 1) := by decide +kernel
theorem dL_law_360 : decode code 360 = .ok (.iaload, 1) := by decide +kernel
theorem dL_law_361 : decode code 361 = .ok (.aload_n 0, 1) := by decide +kernel
theorem dL_law_362 : decode code 362 = .ok (.iload_n 3, 1) := by decide +kernel
theorem dL_law_363 : decode code 363 = .ok (.iconst 2, 1) := by decide +kernel
theorem dL_law_364 : decode code 364 = .ok (.iadd, 1) := by decide +kernel
theorem dL_law_365 : decode code 365 = .ok (.iaload, 1) := by decide +kernel
theorem dL_law_366 : decode code 366 = .ok (.aload_n 0, 1) := by decide +kernel
theorem dL_law_367 : decode code 367 = .ok (.iload_n 3, 1) := by decide +kernel
theorem dL_law_368 : decode code 368 = .ok (.iconst 3, 1) := by decide +kernel
theorem dL_law_369 : decode code 369 = .ok (.iadd, 1) := by decide +kernel
theorem dL_law_370 : decode code 370 = .ok (.iaload, 1) := by decide +kernel
theorem dL_law_371 : decode code 371 = .ok (.invokevirtual 31, 3) := by decide +kernel
theorem dL_law_374 : decode code 374 = .ok (.pop, 1) := by decide +kernel
theorem dL_law_375 : decode code 375 = .ok (.goto 1507, 3) := by decide +kernel
theorem dL_law_378 : decode code 378 = .ok (.aload_n 1, 1) := by decide +kernel
theorem dL_law_379 : decode code 379 = .ok (.aload_n 0, 1) := by decide +kernel
theorem dL_law_380 : decode code 380 = .ok (.iload_n 3, 1) := by decide +kernel
theorem dL_law_381 : decode code 381 = .ok (.iconst 1, 1) := by decide +kernel
theorem dL_law_382 : decode code 382 = .ok (.iadd, 1) := by decide +kernel
theorem dL_law_383 : decode code 383 = .ok (.iaload, 1) := by decide +kernel
theorem dL_law_384 : decode code 384 = .ok (.aload_n 0, 1) := by decide +kernel
theorem dL_law_385 : decode code 385 = .ok (.iload_n 3, 1) := by decide +kernel
theorem dL_law_386 : decode code 386 = .ok (.iconst 2, 1) := by decide +kernel
theorem dL_law_387 : decode code 387 = .ok (.iadd, 1) := by decide +kernel
theorem dL_law_388 : decode code 388 = .ok (.iaload, 1) := by decide +kernel
theorem dL_law_389 : decode code 389 = .ok (.aload_n 0, 1) := by decide +kernel
theorem dL_law_390 : decode code 390 = .ok (.iload_n 3, 1) := by decide +kernel
theorem dL_law_391 : decode code 391 = .ok (.iconst 3, 1) := by decide +kernel
theorem dL_law_392 : decode code 392 = .ok (.iadd, 1) := by decide +kernel
theorem dL_law_393 : decode code 393 = .ok (.iaload, 1) := by decide +kernel
theorem dL_law_394 : decode code 394 = .ok (.i2l, 1) := by decide +kernel
theorem dL_law_395 : decode code 395 = .ok (.bipush 32, 2) := by decide +kernel
theorem dL_law_397 : decode code 397 = .ok (.lshl, 1) := by decide +kernel
theorem dL_law_398 : decode code 398 = .ok (.aload_n 0, 1) := by decide +kernel
theorem dL_law_399 : decode code 399 = .ok (.iload_n 3, 1) := by decide +kernel
theorem dL_law_400 : decode code 400 = .ok (.iconst 4, 1) := by decide +kernel
theorem dL_law_401 : decode code 401 = .ok (.iadd, 1) := by decide +kernel
theorem dL_law_402 : decode code 402 = .ok (.iaload, 1) := by decide +kernel
theorem dL_law_403 : decode code 403 = .ok (.i2l, 1) := by decide +kernel
theorem dL_law_404 : decode code 404 = .ok (.ldc2_w 32, 3) := by decide +kernel
theorem dL_law_407 : decode code 407 = .ok (.land, 1) := by decide +kernel
theorem dL_law_408 : decode code 408 = .ok (.lor, 1) := by decide +kernel
theorem dL_law_409 : decode code 409 = .ok (.invokevirtual 34, 3) := by decide +kernel
theorem dL_law_412 : decode code 412 = .ok (.pop, 1) := by decide +kernel
theorem dL_law_413 : decode code 413 = .ok (.aload_n 2, 1) := by decide +kernel
theorem dL_law_414 : decode code 414 = .ok (.aload_n 0, 1) := by decide +kernel
theorem dL_law_415 : decode code 415 = .ok (.iload_n 3, 1) := by decide +kernel
theorem dL_law_416 : decode code 416 = .ok (.iconst 1, 1) := by decide +kernel
theorem dL_law_417 : decode code 417 = .ok (.iadd, 1) := by decide +kernel
theorem dL_law_418 : decode code 418 = .ok (.iaload, 1) := by decide +kernel
theorem dL_law_419 : decode code 419 = .ok (.aload_n 0, 1) := by decide +kernel
theorem dL_law_420 : decode code 420 = .ok (.iload_n 3, 1) := by decide +kernel
theorem dL_law_421 : decode code 421 = .ok (.iconst 2, 1) := by decide +kernel
theorem dL_law_422 : decode code 422 = .ok (.iadd, 1) := by decide +kernel
theorem dL_law_423 : decode code 423 = .ok (.iaload, 1) := by decide +kernel
theorem dL_law_424 : decode code 424 = .ok (.aload_n 0, 1) := by decide +kernel
theorem dL_law_425 : decode code 425 = .ok (.iload_n 3, 1) := by decide +kernel
theorem dL_law_426 : decode code 426 = .ok (.iconst 3, 1) := by decide +kernel
theorem dL_law_427 : decode code 427 = .ok (.iadd, 1) := by decide +kernel
theorem dL_law_428 : decode code 428 = .ok (.iaload, 1) := by decide +kernel
theorem dL_law_429 : decode code 429 = .ok (.i2l, 1) := by decide +kernel
theorem dL_law_430 : decode code 430 = .ok (.bipush 32, 2) := by decide +kernel
theorem dL_law_432 : decode code 432 = .ok (.lshl, 1) := by decide +kernel
theorem dL_law_433 : decode code 433 = .ok (.aload_n 0, 1) := by decide +kernel
theorem dL_law_434 : decode code 434 = .ok (.iload_n 3, 1) := by decide +kernel
theorem dL_law_435 : decode code 435 = .ok (.iconst 4, 1) := by decide +kernel
theorem dL_law_436 : decode code 436 = .ok (.iadd, 1) := by decide +kernel
theorem dL_law_437 : decode code 437 = .ok (.iaload, 1) := by decide +kernel
theorem dL_law_438 : decode code 438 = .ok (.i2l, 1) := by decide +kernel
theorem dL_law_439 : decode code 439 = .ok (.ldc2_w 32, 3) := by decide +kernel
theorem dL_law_442 : decode code 442 = .ok (.land, 1) := by decide +kernel
theorem dL_law_443 : decode code 443 = .ok (.lor, 1) := by decide +kernel
theorem dL_law_444 : decode code 444 = .ok (.invokevirtual 38, 3) := by decide +kernel
theorem dL_law_447 : decode code 447 = .ok (.pop, 1) := by decide +kernel
theorem dL_law_448 : decode code 448 = .ok (.goto 1434, 3) := by decide +kernel
theorem dL_law_451 : decode code 451 = .ok (.aload_n 1, 1) := by decide +kernel
theorem dL_law_452 : decode code 452 = .ok (.aload_n 0, 1) := by decide +kernel
theorem dL_law_453 : decode code 453 = .ok (.iload_n 3, 1) := by decide +kernel
theorem dL_law_454 : decode code 454 = .ok (.iconst 1, 1) := by decide +kernel
theorem dL_law_455 : decode code 455 = .ok (.iadd, 1) := by decide +kernel
theorem dL_law_456 : decode code 456 = .ok (.iaload, 1) := by decide +kernel
theorem dL_law_457 : decode code 457 = .ok (.aload_n 0, 1) := by decide +kernel
theorem dL_law_458 : decode code 458 = .ok (.iload_n 3, 1) := by decide +kernel
theorem dL_law_459 : decode code 459 = .ok (.iconst 2, 1) := by decide +kernel
theorem dL_law_460 : decode code 460 = .ok (.iadd, 1) := by decide +kernel
theorem dL_law_461 : decode code 461 = .ok (.iaload, 1) := by decide +kernel
theorem dL_law_462 : decode code 462 = .ok (.invokevirtual 39, 3) := by decide +kernel
theorem dL_law_465 : decode code 465 = .ok (.pop2, 1) := by decide +kernel
theorem dL_law_466 : decode code 466 = .ok (.aload_n 2, 1) := by decide +kernel
theorem dL_law_467 : decode code 467 = .ok (.aload_n 0, 1) := by decide +kernel
theorem dL_law_468 : decode code 468 = .ok (.iload_n 3, 1) := by decide +kernel
theorem dL_law_469 : decode code 469 = .ok (.iconst 1, 1) := by decide +kernel
theorem dL_law_470 : decode code 470 = .ok (.iadd, 1) := by decide +kernel
theorem dL_law_471 : decode code 471 = .ok (.iaload, 1) := by decide +kernel
theorem dL_law_472 : decode code 472 = .ok (.aload_n 0, 1) := by decide +kernel
theorem dL_law_473 : decode code 473 = .ok (.iload_n 3, 1) := by decide +kernel
theorem dL_law_474 : decode code 474 = .ok (.iconst 2, 1) := by decide +kernel
theorem dL_law_475 : decode code 475 = .ok (.iadd, 1) := by decide +kernel
theorem dL_law_476 : decode code 476 = .ok (.iaload, 1) := by decide +kernel
theorem dL_law_477 : decode code 477 = .ok (.invokevirtual 43, 3) := by decide +kernel
theorem dL_law_480 : decode code 480 = .ok (.pop2, 1) := by decide +kernel
theorem dL_law_481 : decode code 481 = .ok (.goto 1401, 3) := by decide +kernel
theorem dL_law_484 : decode code 484 = .ok (.aload_n 1, 1) := by decide +kernel
theorem dL_law_485 : decode code 485 = .ok (.aload_n 0, 1) := by decide +kernel
theorem dL_law_486 : decode code 486 = .ok (.iload_n 3, 1) := by decide +kernel
theorem dL_law_487 : decode code 487 = .ok (.iconst 1, 1) := by decide +kernel
theorem dL_law_488 : decode code 488 = .ok (.iadd, 1) := by decide +kernel
theorem dL_law_489 : decode code 489 = .ok (.iaload, 1) := by decide +kernel
theorem dL_law_490 : decode code 490 = .ok (.aload_n 0, 1) := by decide +kernel
theorem dL_law_491 : decode code 491 = .ok (.iload_n 3, 1) := by decide +kernel
theorem dL_law_492 : decode code 492 = .ok (.iconst 2, 1) := by decide +kernel
theorem dL_law_493 : decode code 493 = .ok (.iadd, 1) := by decide +kernel
theorem dL_law_494 : decode code 494 = .ok (.iaload, 1) := by decide +kernel
theorem dL_law_495 : decode code 495 = .ok (.aload_n 0, 1) := by decide +kernel
theorem dL_law_496 : decode code 496 = .ok (.iload_n 3, 1) := by decide +kernel
theorem dL_law_497 : decode code 497 = .ok (.iconst 3, 1) := by decide +kernel
theorem dL_law_498 : decode code 498 = .ok (.iadd, 1) := by decide +kernel
theorem dL_law_499 : decode code 499 = .ok (.iaload, 1) := by decide +kernel
theorem dL_law_500 : decode code 500 = .ok (.aload_n 0, 1) := by decide +kernel
theorem dL_law_501 : decode code 501 = .ok (.iload_n 3, 1) := by decide +kernel
theorem dL_law_502 : decode code 502 = .ok (.iconst 4, 1) := by decide +kernel
theorem dL_law_503 : decode code 503 = .ok (.iadd, 1) := by decide +kernel
theorem dL_law_504 : decode code 504 = .ok (.iaload, 1) := by decide +kernel
theorem dL_law_505 : decode code 505 = .ok (.aload_n 0, 1) := by decide +kernel
theorem dL_law_506 : decode code 506 = .ok (.iload_n 3, 1) := by decide +kernel
theorem dL_law_507 : decode code 507 = .ok (.iconst 5, 1) := by decide +kernel
theorem dL_law_508 : decode code 508 = .ok (.iadd, 1) := by decide +kernel
theorem dL_law_509 : decode code 509 = .ok (.iaload, 1) := by decide +kernel
theorem dL_law_510 : decode code 510 = .ok (.invokevirtual 44, 3) := by decide +kernel
theorem dL_law_513 : decode code 513 = .ok (.pop, 1) := by decide +kernel
theorem dL_law_514 : decode code 514 = .ok (.aload_n 2, 1) := by decide +kernel
theorem dL_law_515 : decode code 515 = .ok (.aload_n 0, 1) := by decide +kernel
theorem dL_law_516 : decode code 516 = .ok (.iload_n 3, 1) := by decide +kernel
theorem dL_law_517 : decode code 517 = .ok (.iconst 1, 1) := by decide +kernel
theorem dL_law_518 : decode code 518 = .ok (.iadd, 1) := by decide +kernel
theorem dL_law_519 : decode code 519 = .ok (.iaload, 1) := by decide +kernel
theorem dL_law_520 : decode code 520 = .ok (.aload_n 0, 1) := by decide +kernel
theorem dL_law_521 : decode code 521 = .ok (.iload_n 3, 1) := by decide +kernel
theorem dL_law_522 : decode code 522 = .ok (.iconst 2, 1) := by decide +kernel
theorem dL_law_523 : decode code 523 = .ok (.iadd, 1) := by decide +kernel
theorem dL_law_524 : decode code 524 = .ok (.iaload, 1) := by decide +kernel
theorem dL_law_525 : decode code 525 = .ok (.aload_n 0, 1) := by decide +kernel
theorem dL_law_526 : decode code 526 = .ok (.iload_n 3, 1) := by decide +kernel
theorem dL_law_527 : decode code 527 = .ok (.iconst 3, 1) := by decide +kernel
theorem dL_law_528 : decode code 528 = .ok (.iadd, 1) := by decide +kernel
theorem dL_law_529 : decode code 529 = .ok (.iaload, 1) := by decide +kernel
theorem dL_law_530 : decode code 530 = .ok (.aload_n 0, 1) := by decide +kernel
theorem dL_law_531 : decode code 531 = .ok (.iload_n 3, 1) := by decide +kernel
theorem dL_law_532 : decode code 532 = .ok (.iconst 4, 1) := by decide +kernel
theorem dL_law_533 : decode code 533 = .ok (.iadd, 1) := by decide +kernel
theorem dL_law_534 : decode code 534 = .ok (.iaload, 1) := by decide +kernel
theorem dL_law_535 : decode code 535 = .ok (.aload_n 0, 1) := by decide +kernel
theorem dL_law_536 : decode code 536 = .ok (.iload_n 3, 1) := by decide +kernel
theorem dL_law_537 : decode code 537 = .ok (.iconst 5, 1) := by decide +kernel
theorem dL_law_538 : decode code 538 = .ok (.iadd, 1) := by decide +kernel
theorem dL_law_539 : decode code 539 = .ok (.iaload, 1) := by decide +kernel
theorem dL_law_540 : decode code 540 = .ok (.invokevirtual 48, 3) := by decide +kernel
theorem dL_law_543 : decode code 543 = .ok (.pop, 1) := by decide +kernel
theorem dL_law_544 : decode code 544 = .ok (.goto 1338, 3) := by decide +kernel
theorem dL_law_547 : decode code 547 = .ok (.aload_n 1, 1) := by decide +kernel
theorem dL_law_548 : decode code 548 = .ok (.aload_n 0, 1) := by decide +kernel
theorem dL_law_549 : decode code 549 = .ok (.iload_n 3, 1) := by decide +kernel
theorem dL_law_550 : decode code 550 = .ok (.iconst 1, 1) := by decide +kernel
theorem dL_law_551 : decode code 551 = .ok (.iadd, 1) := by decide +kernel
theorem dL_law_552 : decode code 552 = .ok (.iaload, 1) := by decide +kernel
theorem dL_law_553 : decode code 553 = .ok (.aload_n 0, 1) := by decide +kernel
theorem dL_law_554 : decode code 554 = .ok (.iload_n 3, 1) := by decide +kernel
theorem dL_law_555 : decode code 555 = .ok (.iconst 2, 1) := by decide +kernel
theorem dL_law_556 : decode code 556 = .ok (.iadd, 1) := by decide +kernel
theorem dL_law_557 : decode code 557 = .ok (.iaload, 1) := by decide +kernel
theorem dL_law_558 : decode code 558 = .ok (.aload_n 0, 1) := by decide +kernel
theorem dL_law_559 : decode code 559 = .ok (.iload_n 3, 1) := by decide +kernel
theorem dL_law_560 : decode code 560 = .ok (.iconst 3, 1) := by decide +kernel
theorem dL_law_561 : decode code 561 = .ok (.iadd, 1) := by decide +kernel
theorem dL_law_562 : decode code 562 = .ok (.iaload, 1) := by decide +kernel
theorem dL_law_563 : decode code 563 = .ok (.aload_n 0, 1) := by decide +kernel
theorem dL_law_564 : decode code 564 = .ok (.iload_n 3, 1) := by decide +kernel
theorem dL_law_565 : decode code 565 = .ok (.iconst 4, 1) := by decide +kernel
theorem dL_law_566 : decode code 566 = .ok (.iadd, 1) := by decide +kernel
theorem dL_law_567 : decode code 567 = .ok (.iaload, 1) := by decide +kernel
theorem dL_law_568 : decode code 568 = .ok (.aload_n 0, 1) := by decide +kernel
theorem dL_law_569 : decode code 569 = .ok (.iload_n 3, 1) := by decide +kernel
theorem dL_law_570 : decode code 570 = .ok (.iconst 5, 1) := by decide +kernel
theorem dL_law_571 : decode code 571 = .ok (.iadd, 1) := by decide +kernel
theorem dL_law_572 : decode code 572 = .ok (.iaload, 1) := by decide +kernel
theorem dL_law_573 : decode code 573 = .ok (.invokevirtual 49, 3) := by decide +kernel
theorem dL_law_576 : decode code 576 = .ok (.pop, 1) := by decide +kernel
theorem dL_law_577 : decode code 577 = .ok (.aload_n 2, 1) := by decide +kernel
theorem dL_law_578 : decode code 578 = .ok (.aload_n 0, 1) := by decide +kernel
theorem dL_law_579 : decode code 579 = .ok (.iload_n 3, 1) := by decide +kernel
theorem dL_law_580 : decode code 580 = .ok (.iconst 1, 1) := by decide +kernel
theorem dL_law_581 : decode code 581 = .ok (.iadd, 1) := by decide +kernel
theorem dL_law_582 : decode code 582 = .ok (.iaload, 1) := by decide +kernel
theorem dL_law_583 : decode code 583 = .ok (.aload_n 0, 1) := by decide +kernel
theorem dL_law_584 : decode code 584 = .ok (.iload_n 3, 1) := by decide +kernel
theorem dL_law_585 : decode code 585 = .ok (.iconst 2, 1) := by decide +kernel
theorem dL_law_586 : decode code 586 = .ok (.iadd, 1) := by decide +kernel
theorem dL_law_587 : decode code 587 = .ok (.iaload, 1) := by decide +kernel
theorem dL_law_588 : decode code 588 = .ok (.aload_n 0, 1) := by decide +kernel
theorem dL_law_589 : decode code 589 = .ok (.iload_n 3, 1) := by decide +kernel
theorem dL_law_590 : decode code 590 = .ok (.iconst 3, 1) := by decide +kernel
theorem dL_law_591 : decode code 591 = .ok (.iadd, 1) := by decide +kernel
theorem dL_law_592 : decode code 592 = .ok (.iaload, 1) := by decide +kernel
theorem dL_law_593 : decode code 593 = .ok (.aload_n 0, 1) := by decide +kernel
theorem dL_law_594 : decode code 594 = .ok (.iload_n 3, 1) := by decide +kernel
theorem dL_law_595 : decode code 595 = .ok (.iconst 4, 1) := by decide +kernel
theorem dL_law_596 : decode code 596 = .ok (.iadd, 1) := by decide +kernel
theorem dL_law_597 : decode code 597 = .ok (.iaload, 1) := by decide +kernel
theorem dL_law_598 : decode code 598 = .ok (.aload_n 0, 1) := by decide +kernel
theorem dL_law_599 : decode code 599 = .ok (.iload_n 3, 1) := by decide +kernel
theorem dL_law_600 : decode code 600 = .ok (.iconst 5, 1) := by decide +kernel
theorem dL_law_601 : decode code 601 = .ok (.iadd, 1) := by decide +kernel
theorem dL_law_602 : decode code 602 = .ok (.iaload, 1) := by decide +kernel
theorem dL_law_603 : decode code 603 = .ok (.invokevirtual 53, 3) := by decide +kernel
theorem dL_law_606 : decode code 606 = .ok (.pop, 1) := by decide +kernel
theorem dL_law_607 : decode code 607 = .ok (.goto 1275, 3) := by decide +kernel
theorem dL_law_610 : decode code 610 = .ok (.aload_n 1, 1) := by decide +kernel
theorem dL_law_611 : decode code 611 = .ok (.aload_n 0, 1) := by decide +kernel
theorem dL_law_612 : decode code 612 = .ok (.iload_n 3, 1) := by decide +kernel
theorem dL_law_613 : decode code 613 = .ok (.iconst 1, 1) := by decide +kernel
theorem dL_law_614 : decode code 614 = .ok (.iadd, 1) := by decide +kernel
theorem dL_law_615 : decode code 615 = .ok (.iaload, 1) := by decide +kernel
theorem dL_law_616 : decode code 616 = .ok (.invokevirtual 54, 3) := by decide +kernel
theorem dL_law_619 : decode code 619 = .ok (.pop, 1) := by decide +kernel
theorem dL_law_620 : decode code 620 = .ok (.aload_n 2, 1) := by decide +kernel
theorem dL_law_621 : decode code 621 = .ok (.aload_n 0, 1) := by decide +kernel
theorem dL_law_622 : decode code 622 = .ok (.iload_n 3, 1) := by decide +kernel
theorem dL_law_623 : decode code 623 = .ok (.iconst 1, 1) := by decide +kernel
theorem dL_law_624 : decode code 624 = .ok (.iadd, 1) := by decide +kernel
theorem dL_law_625 : decode code 625 = .ok (.iaload, 1) := by decide +kernel
theorem dL_law_626 : decode code 626 = .ok (.invokevirtual 58, 3) := by decide +kernel
theorem dL_law_629 : decode code 629 = .ok (.pop, 1) := by decide +kernel
theorem dL_law_630 : decode code 630 = .ok (.goto 1252, 3) := by decide +kernel
theorem dL_law_633 : decode code 633 = .ok (.aload_n 1, 1) := by decide +kernel
theorem dL_law_634 : decode code 634 = .ok (.aload_n 0, 1) := by decide +kernel
theorem dL_law_635 : decode code 635 = .ok (.iload_n 3, 1) := by decide +kernel
theorem dL_law_636 : decode code 636 = .ok (.iconst 1, 1) := by decide +kernel
theorem dL_law_637 : decode code 637 = .ok (.iadd, 1) := by decide +kernel
theorem dL_law_638 : decode code 638 = .ok (.iaload, 1) := by decide +kernel
theorem dL_law_639 : decode code 639 = .ok (.invokevirtual 59, 3) := by decide +kernel
theorem dL_law_642 : decode code 642 = .ok (.aload_n 2, 1) := by decide +kernel
theorem dL_law_643 : decode code 643 = .ok (.aload_n 0, 1) := by decide +kernel
theorem dL_law_644 : decode code 644 = .ok (.iload_n 3, 1) := by decide +kernel
theorem dL_law_645 : decode code 645 = .ok (.iconst 1, 1) := by decide +kernel
theorem dL_law_646 : decode code 646 = .ok (.iadd, 1) := by decide +kernel
theorem dL_law_647 : decode code 647 = .ok (.iaload, 1) := by decide +kernel
theorem dL_law_648 : decode code 648 = .ok (.invokevirtual 62, 3) := by decide +kernel
theorem dL_law_651 : decode code 651 = .ok (.if_icmp .eq 1231, 3) := by decide +kernel
theorem dL_law_656 : decode code 656 = .ok (.aload_n 1, 1) := by decide +kernel
theorem dL_law_657 : decode code 657 = .ok (.aload_n 0, 1) := by decide +kernel
theorem dL_law_658 : decode code 658 = .ok (.iload_n 3, 1) := by decide +kernel
theorem dL_law_659 : decode code 659 = .ok (.iconst 1, 1) := by decide +kernel
theorem dL_law_660 : decode code 660 = .ok (.iadd, 1) := by decide +kernel
theorem dL_law_661 : decode code 661 = .ok (.iaload, 1) := by decide +kernel
theorem dL_law_662 : decode code 662 = .ok (.invokevirtual 63, 3) := by decide +kernel
theorem dL_law_665 : decode code 665 = .ok (.pop, 1) := by decide +kernel
theorem dL_law_666 : decode code 666 = .ok (.aload_n 2, 1) := by decide +kernel
theorem dL_law_667 : decode code 667 = .ok (.aload_n 0, 1) := by decide +kernel
theorem dL_law_668 : decode code 668 = .ok (.iload_n 3, 1) := by decide +kernel
theorem dL_law_669 : decode code 669 = .ok (.iconst 1, 1) := by decide +kernel
theorem dL_law_670 : decode code 670 = .ok (.iadd, 1) := by decide +kernel
theorem dL_law_671 : decode code 671 = .ok (.iaload, 1) := by decide +kernel
theorem dL_law_672 : decode code 672 = .ok (.invokevirtual 66, 3) := by decide +kernel
theorem dL_law_675 : decode code 675 = .ok (.pop, 1) := by decide +kernel
theorem dL_law_676 : decode code 676 = .ok (.goto 1206, 3) := by decide +kernel
theorem dL_law_679 : decode code 679 = .ok (.aload_n 1, 1) := by decide +kernel
theorem dL_law_680 : decode code 680 = .ok (.aload_n 0, 1) := by decide +kernel
theorem dL_law_681 : decode code 681 = .ok (.iload_n 3, 1) := by decide +kernel
theorem dL_law_682 : decode code 682 = .ok (.iconst 1, 1) := by decide +kernel
theorem dL_law_683 : decode code 683 = .ok (.iadd, 1) := by decide +kernel
theorem dL_law_684 : decode code 684 = .ok (.iaload, 1) := by decide +kernel
theorem dL_law_685 : decode code 685 = .ok (.invokevirtual 67, 3) := by decide +kernel
theorem dL_law_688 : decode code 688 = .ok (.pop, 1) := by decide +kernel
theorem dL_law_689 : decode code 689 = .ok (.aload_n 2, 1) := by decide +kernel
theorem dL_law_690 : decode code 690 = .ok (.aload_n 0, 1) := by decide +kernel
theorem dL_law_691 : decode code 691 = .ok (.iload_n 3, 1) := by decide +kernel
theorem dL_law_692 : decode code 692 = .ok (.iconst 1, 1) := by decide +kernel
theorem dL_law_693 : decode code 693 = .ok (.iadd, 1) := by decide +kernel
theorem dL_law_694 : decode code 694 = .ok (.iaload, 1) := by decide +kernel
theorem dL_law_695 : decode code 695 = .ok (.invokevirtual 70, 3) := by decide +kernel
theorem dL_law_698 : decode code 698 = .ok (.pop, 1) := by decide +kernel
theorem dL_law_699 : decode code 699 = .ok (.goto 1183, 3) := by decide +kernel
theorem dL_law_702 : decode code 702 = .ok (.aload_n 1, 1) := by decide +kernel
theorem dL_law_703 : decode code 703 = .ok (.invokevirtual 71, 3) := by decide +kernel
theorem dL_law_706 : decode code 706 = .ok (.pop, 1) := by decide +kernel
theorem dL_law_707 : decode code 707 = .ok (.aload_n 2, 1) := by decide +kernel
theorem dL_law_708 : decode code 708 = .ok (.invokevirtual 74, 3) := by decide +kernel
theorem dL_law_711 : decode code 711 = .ok (.pop, 1) := by decide +kernel
theorem dL_law_712 : decode code 712 = .ok (.goto 1170, 3) := by decide +kernel
theorem dL_law_715 : decode code 715 = .ok (.aload_n 1, 1) := by decide +kernel
theorem dL_law_716 : decode code 716 = .ok (.aload_n 0, 1) := by decide +kernel
theorem dL_law_717 : decode code 717 = .ok (.iload_n 3, 1) := by decide +kernel
theorem dL_law_718 : decode code 718 = .ok (.iconst 1, 1) := by decide +kernel
theorem dL_law_719 : decode code 719 = .ok (.iadd, 1) := by decide +kernel
theorem dL_law_720 : decode code 720 = .ok (.iaload, 1) := by decide +kernel
theorem dL_law_721 : decode code 721 = .ok (.aload_n 0, 1) := by decide +kernel
theorem dL_law_722 : decode code 722 = .ok (.iload_n 3, 1) := by decide +kernel
theorem dL_law_723 : decode code 723 = .ok (.iconst 2, 1) := by decide +kernel
theorem dL_law_724 : decode code 724 = .ok (.iadd, 1) := by decide +kernel
theorem dL_law_725 : decode code 725 = .ok (.iaload, 1) := by decide +kernel
theorem dL_law_726 : decode code 726 = .ok (.invokevirtual 75, 3) := by decide +kernel
theorem dL_law_729 : decode code 729 = .ok (.pop, 1) := by decide +kernel
theorem dL_law_730 : decode code 730 = .ok (.aload_n 2, 1) := by decide +kernel
theorem dL_law_731 : decode code 731 = .ok (.aload_n 0, 1) := by decide +kernel
theorem dL_law_732 : decode code 732 = .ok (.iload_n 3, 1) := by decide +kernel
theorem dL_law_733 : decode code 733 = .ok (.iconst 1, 1) := by decide +kernel
theorem dL_law_734 : decode code 734 = .ok (.iadd, 1) := by decide +kernel
theorem dL_law_735 : decode code 735 = .ok (.iaload, 1) := by decide +kernel
theorem dL_law_736 : decode code 736 = .ok (.aload_n 0, 1) := by decide +kernel
theorem dL_law_737 : decode code 737 = .ok (.iload_n 3, 1) := by decide +kernel
theorem dL_law_738 : decode code 738 = .ok (.iconst 2, 1) := by decide +kernel
theorem dL_law_739 : decode code 739 = .ok (.iadd, 1) := by decide +kernel
theorem dL_law_740 : decode code 740 = .ok (.iaload, 1) := by decide +kernel
theorem dL_law_741 : decode code 741 = .ok (.invokevirtual 79, 3) := by decide +kernel
theorem dL_law_744 : decode code 744 = .ok (.pop, 1) := by decide +kernel
theorem dL_law_745 : decode code 745 = .ok (.goto 1137, 3) := by decide +kernel
theorem dL_law_748 : decode code 748 = .ok (.aload_n 1, 1) := by decide +kernel
theorem dL_law_749 : decode code 749 = .ok (.aload_n 0, 1) := by decide +kernel
theorem dL_law_750 : decode code 750 = .ok (.iload_n 3, 1) := by decide +kernel
theorem dL_law_751 : decode code 751 = .ok (.iconst 1, 1) := by decide +kernel
theorem dL_law_752 : decode code 752 = .ok (.iadd, 1) := by decide +kernel
theorem dL_law_753 : decode code 753 = .ok (.iaload, 1) := by decide +kernel
theorem dL_law_754 : decode code 754 = .ok (.aload_n 0, 1) := by decide +kernel
theorem dL_law_755 : decode code 755 = .ok (.iload_n 3, 1) := by decide +kernel
theorem dL_law_756 : decode code 756 = .ok (.iconst 2, 1) := by decide +kernel
theorem dL_law_757 : decode code 757 = .ok (.iadd, 1) := by decide +kernel
theorem dL_law_758 : decode code 758 = .ok (.iaload, 1) := by decide +kernel
theorem dL_law_759 : decode code 759 = .ok (.invokevirtual 80, 3) := by decide +kernel
theorem dL_law_762 : decode code 762 = .ok (.pop, 1) := by decide +kernel
theorem dL_law_763 : decode code 763 = .ok (.aload_n 2, 1) := by decide +kernel
theorem dL_law_764 : decode code 764 = .ok (.aload_n 0, 1) := by decide +kernel
theorem dL_law_765 : decode code 765 = .ok (.iload_n 3, 1) := by decide +kernel
theorem dL_law_766 : decode code 766 = .ok (.iconst 1, 1) := by decide +kernel
theorem dL_law_767 : decode code 767 = .ok (.iadd, 1) := by decide +kernel
theorem dL_law_768 : decode code 768 = .ok (.iaload, 1) := by decide +kernel
theorem dL_law_769 : decode code 769 = .ok (.aload_n 0, 1) := by decide +kernel
theorem dL_law_770 : decode code 770 = .ok (.iload_n 3, 1) := by decide +kernel
theorem dL_law_771 : decode code 771 = .ok (.iconst 2, 1) := by decide +kernel
theorem dL_law_772 : decode code 772 = .ok (.iadd, 1) := by decide +kernel
theorem dL_law_773 : decode code 773 = .ok (.iaload, 1) := by decide +kernel
theorem dL_law_774 : decode code 774 = .ok (.invokevirtual 83, 3) := by decide +kernel
theorem dL_law_777 : decode code 777 = .ok (.pop, 1) := by decide +kernel
theorem dL_law_778 : decode code 778 = .ok (.goto 1104, 3) := by decide +kernel
theorem dL_law_781 : decode code 781 = .ok (.aload_n 1, 1) := by decide +kernel
theorem dL_law_782 : decode code 782 = .ok (.aload_n 0, 1) := by decide +kernel
theorem dL_law_783 : decode code 783 = .ok (.iload_n 3, 1) := by decide +kernel
theorem dL_law_784 : decode code 784 = .ok (.iconst 1, 1) := by decide +kernel
theorem dL_law_785 : decode code 785 = .ok (.iadd, 1) := by decide +kernel
theorem dL_law_786 : decode code 786 = .ok (.iaload, 1) := by decide +kernel
theorem dL_law_787 : decode code 787 = .ok (.aload_n 0, 1) := by decide +kernel
theorem dL_law_788 : decode code 788 = .ok (.iload_n 3, 1) := by decide +kernel
theorem dL_law_789 : decode code 789 = .ok (.iconst 2, 1) := by decide +kernel
theorem dL_law_790 : decode code 790 = .ok (.iadd, 1) := by decide +kernel
theorem dL_law_791 : decode code 791 = .ok (.iaload, 1) := by decide +kernel
theorem dL_law_792 : decode code 792 = .ok (.invokevirtual 84, 3) := by decide +kernel
theorem dL_law_795 : decode code 795 = .ok (.pop, 1) := by decide +kernel
theorem dL_law_796 : decode code 796 = .ok (.aload_n 2, 1) := by decide +kernel
theorem dL_law_797 : decode code 797 = .ok (.aload_n 0, 1) := by decide +kernel
theorem dL_law_798 : decode code 798 = .ok (.iload_n 3, 1) := by decide +kernel
theorem dL_law_799 : decode code 799 = .ok (.iconst 1, 1) := by decide +kernel
theorem dL_law_800 : decode code 800 = .ok (.iadd, 1) := by decide +kernel
theorem dL_law_801 : decode code 801 = .ok (.iaload, 1) := by decide +kernel
theorem dL_law_802 : decode code 802 = .ok (.aload_n 0, 1) := by decide +kernel
theorem dL_law_803 : decode code 803 = .ok (.iload_n 3, 1) := by decide +kernel
theorem dL_law_804 : decode code 804 = .ok (.iconst 2, 1) := by decide +kernel
theorem dL_law_805 : decode code 805 = .ok (.iadd, 1) := by decide +kernel
theorem dL_law_806 : decode code 806 = .ok (.iaload, 1) := by decide +kernel
theorem dL_law_807 : decode code 807 = .ok (.invokevirtual 87, 3) := by decide +kernel
theorem dL_law_810 : decode code 810 = .ok (.pop, 1) := by decide +kernel
theorem dL_law_811 : decode code 811 = .ok (.goto 1071, 3) := by decide +kernel
theorem dL_law_814 : decode code 814 = .ok (.aload_n 1, 1) := by decide +kernel
theorem dL_law_815 : decode code 815 = .ok (.aload_n 0, 1) := by decide +kernel
theorem dL_law_816 : decode code 816 = .ok (.iload_n 3, 1) := by decide +kernel
theorem dL_law_817 : decode code 817 = .ok (.iconst 1, 1) := by decide +kernel
theorem dL_law_818 : decode code 818 = .ok (.iadd, 1) := by decide +kernel
theorem dL_law_819 : decode code 819 = .ok (.iaload, 1) := by decide +kernel
theorem dL_law_820 : decode code 820 = .ok (.aload_n 0, 1) := by decide +kernel
theorem dL_law_821 : decode code 821 = .ok (.iload_n 3, 1) := by decide +kernel
theorem dL_law_822 : decode code 822 = .ok (.iconst 2, 1) := by decide +kernel
theorem dL_law_823 : decode code 823 = .ok (.iadd, 1) := by decide +kernel
theorem dL_law_824 : decode code 824 = .ok (.iaload, 1) := by decide +kernel
theorem dL_law_825 : decode code 825 = .ok (.invokevirtual 88, 3) := by decide +kernel
theorem dL_law_828 : decode code 828 = .ok (.pop, 1) := by decide +kernel
theorem dL_law_829 : decode code 829 = .ok (.aload_n 2, 1) := by decide +kernel
theorem dL_law_830 : decode code 830 = .ok (.aload_n 0, 1) := by decide +kernel
theorem dL_law_831 : decode code 831 = .ok (.iload_n 3, 1) := by decide +kernel
theorem dL_law_832 : decode code 832 = .ok (.iconst 1, 1) := by decide +kernel
theorem dL_law_833 : decode code 833 = .ok (.iadd, 1) := by decide +kernel
theorem dL_law_834 : decode code 834 = .ok (.iaload, 1) := by decide +kernel
theorem dL_law_835 : decode code 835 = .ok (.aload_n 0, 1) := by decide +kernel
theorem dL_law_836 : decode code 836 = .ok (.iload_n 3, 1) := by decide +kernel
theorem dL_law_837 : decode code 837 = .ok (.iconst 2, 1) := by decide +kernel
theorem dL_law_838 : decode code 838 = .ok (.iadd, 1) := by decide +kernel
theorem dL_law_839 : decode code 839 = .ok (.iaload, 1) := by decide +kernel
theorem dL_law_840 : decode code 840 = .ok (.invokevirtual 91, 3) := by decide +kernel
theorem dL_law_843 : decode code 843 = .ok (.pop, 1) := by decide +kernel
theorem dL_law_844 : decode code 844 = .ok (.goto 1038, 3) := by decide +kernel
theorem dL_law_847 : decode code 847 = .ok (.aload_n 1, 1) := by decide +kernel
theorem dL_law_848 : decode code 848 = .ok (.aload_n 0, 1) := by decide +kernel
theorem dL_law_849 : decode code 849 = .ok (.iload_n 3, 1) := by decide +kernel
theorem dL_law_850 : decode code 850 = .ok (.iconst 1, 1) := by decide +kernel
theorem dL_law_851 : decode code 851 = .ok (.iadd, 1) := by decide +kernel
theorem dL_law_852 : decode code 852 = .ok (.iaload, 1) := by decide +kernel
theorem dL_law_853 : decode code 853 = .ok (.aload_n 0, 1) := by decide +kernel
theorem dL_law_854 : decode code 854 = .ok (.iload_n 3, 1) := by decide +kernel
theorem dL_law_855 : decode code 855 = .ok (.iconst 2, 1) := by decide +kernel
theorem dL_law_856 : decode code 856 = .ok (.iadd, 1) := by decide +kernel
theorem dL_law_857 : decode code 857 = .ok (.iaload, 1) := by decide +kernel
theorem dL_law_858 : decode code 858 = .ok (.invokevirtual 92, 3) := by decide +kernel
theorem dL_law_861 : decode code 861 = .ok (.pop, 1) := by decide +kernel
theorem dL_law_862 : decode code 862 = .ok (.aload_n 2, 1) := by decide +kernel
theorem dL_law_863 : decode code 863 = .ok (.aload_n 0, 1) := by decide +kernel
theorem dL_law_864 : decode code 864 = .ok (.iload_n 3, 1) := by decide +kernel
theorem dL_law_865 : decode code 865 = .ok (.iconst 1, 1) := by decide +kernel
theorem dL_law_866 : decode code 866 = .ok (.iadd, 1) := by decide +kernel
theorem dL_law_867 : decode code 867 = .ok (.iaload, 1) := by decide +kernel
theorem dL_law_868 : decode code 868 = .ok (.aload_n 0, 1) := by decide +kernel
theorem dL_law_869 : decode code 869 = .ok (.iload_n 3, 1) := by decide +kernel
theorem dL_law_870 : decode code 870 = .ok (.iconst 2, 1) := by decide +kernel
theorem dL_law_871 : decode code 871 = .ok (.iadd, 1) := by decide +kernel
theorem dL_law_872 : decode code 872 = .ok (.iaload, 1) := by decide +kernel
theorem dL_law_873 : decode code 873 = .ok (.invokevirtual 95, 3) := by decide +kernel
theorem dL_law_876 : decode code 876 = .ok (.pop, 1) := by decide +kernel
theorem dL_law_877 : decode code 877 = .ok (.goto 1005, 3) := by decide +kernel
theorem dL_law_880 : decode code 880 = .ok (.aload_n 1, 1) := by decide +kernel
theorem dL_law_881 : decode code 881 = .ok (.aload_n 0, 1) := by decide +kernel
theorem dL_law_882 : decode code 882 = .ok (.iload_n 3, 1) := by decide +kernel
theorem dL_law_883 : decode code 883 = .ok (.iconst 1, 1) := by decide +kernel
theorem dL_law_884 : decode code 884 = .ok (.iadd, 1) := by decide +kernel
theorem dL_law_885 : decode code 885 = .ok (.iaload, 1) := by decide +kernel
theorem dL_law_886 : decode code 886 = .ok (.invokevirtual 96, 3) := by decide +kernel
theorem dL_law_889 : decode code 889 = .ok (.pop, 1) := by decide +kernel
theorem dL_law_890 : decode code 890 = .ok (.aload_n 2, 1) := by decide +kernel
theorem dL_law_891 : decode code 891 = .ok (.aload_n 0, 1) := by decide +kernel
theorem dL_law_892 : decode code 892 = .ok (.iload_n 3, 1) := by decide +kernel
theorem dL_law_893 : decode code 893 = .ok (.iconst 1, 1) := by decide +kernel
theorem dL_law_894 : decode code 894 = .ok (.iadd, 1) := by decide +kernel
theorem dL_law_895 : decode code 895 = .ok (.iaload, 1) := by decide +kernel
theorem dL_law_896 : decode code 896 = .ok (.invokevirtual 99, 3) := by decide +kernel
theorem dL_law_899 : decode code 899 = .ok (.pop, 1) := by decide +kernel
theorem dL_law_900 : decode code 900 = .ok (.goto 982, 3) := by decide +kernel
theorem dL_law_903 : decode code 903 = .ok (.aload_n 1, 1) := by decide +kernel
theorem dL_law_904 : decode code 904 = .ok (.invokevirtual 100, 3) := by decide +kernel
theorem dL_law_907 : decode code 907 = .ok (.pop, 1) := by decide +kernel
theorem dL_law_908 : decode code 908 = .ok (.aload_n 2, 1) := by decide +kernel
theorem dL_law_909 : decode code 909 = .ok (.invokevirtual 103, 3) := by decide +kernel
theorem dL_law_912 : decode code 912 = .ok (.pop, 1) := by decide +kernel
theorem dL_law_913 : decode code 913 = .ok (.goto 969, 3) := by decide +kernel
theorem dL_law_916 : decode code 916 = .ok (.aload_n 1, 1) := by decide +kernel
theorem dL_law_917 : decode code 917 = .ok (.invokevirtual 104, 3) := by decide +kernel
theorem dL_law_920 : decode code 920 = .ok (.pop, 1) := by decide +kernel
theorem dL_law_921 : decode code 921 = .ok (.aload_n 2, 1) := by decide +kernel
theorem dL_law_922 : decode code 922 = .ok (.invokevirtual 107, 3) := by decide +kernel
theorem dL_law_925 : decode code 925 = .ok (.pop, 1) := by decide +kernel
theorem dL_law_926 : decode code 926 = .ok (.goto 956, 3) := by decide +kernel
theorem dL_law_929 : decode code 929 = .ok (.aload_n 1, 1) := by decide +kernel
theorem dL_law_930 : decode code 930 = .ok (.invokevirtual 108, 3) := by decide +kernel
theorem dL_law_933 : decode code 933 = .ok (.pop, 1) := by decide +kernel
theorem dL_law_934 : decode code 934 = .ok (.aload_n 2, 1) := by decide +kernel
theorem dL_law_935 : decode code 935 = .ok (.invokevirtual 111, 3) := by decide +kernel
theorem dL_law_938 : decode code 938 = .ok (.pop, 1) := by decide +kernel
theorem dL_law_939 : decode code 939 = .ok (.goto 943, 3) := by decide +kernel
theorem dL_law_942 : decode code 942 = .ok (.aload_n 1, 1) := by decide +kernel
theorem dL_law_943 : decode code 943 = .ok (.invokevirtual 112, 3) := by decide +kernel
theorem dL_law_946 : decode code 946 = .ok (.pop, 1) := by decide +kernel
theorem dL_law_947 : decode code 947 = .ok (.aload_n 2, 1) := by decide +kernel
theorem dL_law_948 : decode code 948 = .ok (.invokevirtual 115, 3) := by decide +kernel
theorem dL_law_951 : decode code 951 = .ok (.pop, 1) := by decide +kernel
theorem dL_law_952 : decode code 952 = .ok (.goto 930, 3) := by decide +kernel
theorem dL_law_955 : decode code 955 = .ok (.aload_n 1, 1) := by decide +kernel
theorem dL_law_956 : decode code 956 = .ok (.aload_n 0, 1) := by decide +kernel
theorem dL_law_957 : decode code 957 = .ok (.iload_n 3, 1) := by decide +kernel
theorem dL_law_958 : decode code 958 = .ok (.iconst 1, 1) := by decide +kernel
theorem dL_law_959 : decode code 959 = .ok (.iadd, 1) := by decide +kernel
theorem dL_law_960 : decode code 960 = .ok (.iaload, 1) := by decide +kernel
theorem dL_law_961 : decode code 961 = .ok (.aload_n 0, 1) := by decide +kernel
theorem dL_law_962 : decode code 962 = .ok (.iload_n 3, 1) := by decide +kernel
theorem dL_law_963 : decode code 963 = .ok (.iconst 2, 1) := by decide +kernel
theorem dL_law_964 : decode code 964 = .ok (.iadd, 1) := by decide +kernel
theorem dL_law_965 : decode code 965 = .ok (.iaload, 1) := by decide +kernel
theorem dL_law_966 : decode code 966 = .ok (.invokevirtual 116, 3) := by decide +kernel
theorem dL_law_969 : decode code 969 = .ok (.pop, 1) := by decide +kernel
theorem dL_law_970 : decode code 970 = .ok (.aload_n 2, 1) := by decide +kernel
theorem dL_law_971 : decode code 971 = .ok (.aload_n 0, 1) := by decide +kernel
theorem dL_law_972 : decode code 972 = .ok (.iload_n 3, 1) := by decide +kernel
theorem dL_law_973 : decode code 973 = .ok (.iconst 1, 1) := by decide +kernel
theorem dL_law_974 : decode code 974 = .ok (.iadd, 1) := by decide +kernel
theorem dL_law_975 : decode code 975 = .ok (.iaload, 1) := by decide +kernel
theorem dL_law_976 : decode code 976 = .ok (.aload_n 0, 1) := by decide +kernel
theorem dL_law_977 : decode code 977 = .ok (.iload_n 3, 1) := by decide +kernel
theorem dL_law_978 : decode code 978 = .ok (.iconst 2, 1) := by decide +kernel
theorem dL_law_979 : decode code 979 = .ok (.iadd, 1) := by decide +kernel
theorem dL_law_980 : decode code 980 = .ok (.iaload, 1) := by decide +kernel
theorem dL_law_981 : decode code 981 = .ok (.invokevirtual 119, 3) := by decide +kernel
theorem dL_law_984 : decode code 984 = .ok (.pop, 1) := by decide +kernel
theorem dL_law_985 : decode code 985 = .ok (.goto 897, 3) := by decide +kernel
theorem dL_law_988 : decode code 988 = .ok (.aload_n 1, 1) := by decide +kernel
theorem dL_law_989 : decode code 989 = .ok (.aload_n 0, 1) := by decide +kernel
theorem dL_law_990 : decode code 990 = .ok (.iload_n 3, 1) := by decide +kernel
theorem dL_law_991 : decode code 991 = .ok (.iconst 1, 1) := by decide +kernel
theorem dL_law_992 : decode code 992 = .ok (.iadd, 1) := by decide +kernel
theorem dL_law_993 : decode code 993 = .ok (.iaload, 1) := by decide +kernel
theorem dL_law_994 : decode code 994 = .ok (.aload_n 0, 1) := by decide +kernel
theorem dL_law_995 : decode code 995 = .ok (.iload_n 3, 1) := by decide +kernel
theorem dL_law_996 : decode code 996 = .ok (.iconst 2, 1) := by decide +kernel
theorem dL_law_997 : decode code 997 = .ok (.iadd, 1) := by decide +kernel
theorem dL_law_998 : decode code 998 = .ok (.iaload, 1) := by decide +kernel
theorem dL_law_999 : decode code 999 = .ok (.aload_n 0, 1) := by decide +kernel
theorem dL_law_1000 : decode code 1000 = .ok (.iload_n 3, 1) := by decide +kernel
theorem dL_law_1001 : decode code 1001 = .ok (.iconst 3, 1) := by decide +kernel
theorem dL_law_1002 : decode code 1002 = .ok (.iadd, 1) := by decide +kernel
theorem dL_law_1003 : decode code 1003 = .ok (.iaload, 1) := by decide +kernel
theorem dL_law_1004 : decode code 1004 = .ok (.invokevirtual 120, 3) := by decide +kernel
theorem dL_law_1007 : decode code 1007 = .ok (.pop, 1) := by decide +kernel
theorem dL_law_1008 : decode code 1008 = .ok (.aload_n 2, 1) := by decide +kernel
theorem dL_law_1009 : decode code 1009 = .ok (.aload_n 0, 1) := by decide +kernel
theorem dL_law_1010 : decode code 1010 = .ok (.iload_n 3, 1) := by decide +kernel
theorem dL_law_1011 : decode code 1011 = .ok (.iconst 1, 1) := by decide +kernel
theorem dL_law_1012 : decode code 1012 = .ok (.iadd, 1) := by decide +kernel
theorem dL_law_1013 : decode code 1013 = .ok (.iaload, 1) := by decide +kernel
theorem dL_law_1014 : decode code 1014 = .ok (.aload_n 0, 1) := by decide +kernel
theorem dL_law_1015 : decode code 1015 = .ok (.iload_n 3, 1) := by decide +kernel
theorem dL_law_1016 : decode code 1016 = .ok (.iconst 2, 1) := by decide +kernel
theorem dL_law_1017 : decode code 1017 = .ok (.iadd, 1) := by decide +kernel
theorem dL_law_1018 : decode code 1018 = .ok (.iaload, 1) := by decide +kernel
theorem dL_law_1019 : decode code 1019 = .ok (.aload_n 0, 1) := by decide +kernel
theorem dL_law_1020 : decode code 1020 = .ok (.iload_n 3, 1) := by decide +kernel
theorem dL_law_1021 : decode code 1021 = .ok (.iconst 3, 1) := by decide +kernel
theorem dL_law_1022 : decode code 1022 = .ok (.iadd, 1) := by decide +kernel
theorem dL_law_1023 : decode code 1023 = .ok (.iaload, 1) := by decide +kernel
theorem dL_law_1024 : decode code 1024 = .ok (.invokevirtual 124, 3) := by decide +kernel
theorem dL_law_1027 : decode code 1027 = .ok (.pop, 1) := by decide +kernel
theorem dL_law_1028 : decode code 1028 = .ok (.goto 854, 3) := by decide +kernel
theorem dL_law_1031 : decode code 1031 = .ok (.aload_n 1, 1) := by decide +kernel
theorem dL_law_1032 : decode code 1032 = .ok (.aload_n 0, 1) := by decide +kernel
theorem dL_law_1033 : decode code 1033 = .ok (.iload_n 3, 1) := by decide +kernel
theorem dL_law_1034 : decode code 1034 = .ok (.iconst 1, 1) := by decide +kernel
theorem dL_law_1035 : decode code 1035 = .ok (.iadd, 1) := by decide +kernel
theorem dL_law_1036 : decode code 1036 = .ok (.iaload, 1) := by decide +kernel
theorem dL_law_1037 : decode code 1037 = .ok (.invokevirtual 125, 3) := by decide +kernel
theorem dL_law_1040 : decode code 1040 = .ok (.pop, 1) := by decide +kernel
theorem dL_law_1041 : decode code 1041 = .ok (.aload_n 2, 1) := by decide +kernel
theorem dL_law_1042 : decode code 1042 = .ok (.aload_n 0, 1) := by decide +kernel
theorem dL_law_1043 : decode code 1043 = .ok (.iload_n 3, 1) := by decide +kernel
theorem dL_law_1044 : decode code 1044 = .ok (.iconst 1, 1) := by decide +kernel
theorem dL_law_1045 : decode code 1045 = .ok (.iadd, 1) := by decide +kernel
theorem dL_law_1046 : decode code 1046 = .ok (.iaload, 1) := by decide +kernel
theorem dL_law_1047 : decode code 1047 = .ok (.invokevirtual 128, 3) := by decide +kernel
theorem dL_law_1050 : decode code 1050 = .ok (.pop, 1) := by decide +kernel
theorem dL_law_1051 : decode code 1051 = .ok (.goto 831, 3) := by decide +kernel
theorem dL_law_1054 : decode code 1054 = .ok (.aload_n 1, 1) := by decide +kernel
theorem dL_law_1055 : decode code 1055 = .ok (.aload_n 0, 1) := by decide +kernel
theorem dL_law_1056 : decode code 1056 = .ok (.iload_n 3, 1) := by decide +kernel
theorem dL_law_1057 : decode code 1057 = .ok (.iconst 1, 1) := by decide +kernel
theorem dL_law_1058 : decode code 1058 = .ok (.iadd, 1) := by decide +kernel
theorem dL_law_1059 : decode code 1059 = .ok (.iaload, 1) := by decide +kernel
theorem dL_law_1060 : decode code 1060 = .ok (.aload_n 0, 1) := by decide +kernel
theorem dL_law_1061 : decode code 1061 = .ok (.iload_n 3, 1) := by decide +kernel
theorem dL_law_1062 : decode code 1062 = .ok (.iconst 2, 1) := by decide +kernel
theorem dL_law_1063 : decode code 1063 = .ok (.iadd, 1) := by decide +kernel
theorem dL_law_1064 : decode code 1064 = .ok (.iaload, 1) := by decide +kernel
theorem dL_law_1065 : decode code 1065 = .ok (.aload_n 0, 1) := by decide +kernel
theorem dL_law_1066 : decode code 1066 = .ok (.iload_n 3, 1) := by decide +kernel
theorem dL_law_1067 : decode code 1067 = .ok (.iconst 3, 1) := by decide +kernel
theorem dL_law_1068 : decode code 1068 = .ok (.iadd, 1) := by decide +kernel
theorem dL_law_1069 : decode code 1069 = .ok (.iaload, 1) := by decide +kernel
theorem dL_law_1070 : decode code 1070 = .ok (.invokevirtual 129, 3) := by decide +kernel
theorem dL_law_1073 : decode code 1073 = .ok (.pop, 1) := by decide +kernel
theorem dL_law_1074 : decode code 1074 = .ok (.aload_n 2, 1) := by decide +kernel
theorem dL_law_1075 : decode code 1075 = .ok (.aload_n 0, 1) := by decide +kernel
theorem dL_law_1076 : decode code 1076 = .ok (.iload_n 3, 1) := by decide +kernel
theorem dL_law_1077 : decode code 1077 = .ok (.iconst 1, 1) := by decide +kernel
theorem dL_law_1078 : decode code 1078 = .ok (.iadd, 1) := by decide +kernel
theorem dL_law_1079 : decode code 1079 = .ok (.iaload, 1) := by decide +kernel
theorem dL_law_1080 : decode code 1080 = .ok (.aload_n 0, 1) := by decide +kernel
theorem dL_law_1081 : decode code 1081 = .ok (.iload_n 3, 1) := by decide +kernel
theorem dL_law_1082 : decode code 1082 = .ok (.iconst 2, 1) := by decide +kernel
theorem dL_law_1083 : decode code 1083 = .ok (.iadd, 1) := by decide +kernel
theorem dL_law_1084 : decode code 1084 = .ok (.iaload, 1) := by decide +kernel
theorem dL_law_1085 : decode code 1085 = .ok (.aload_n 0, 1) := by decide +kernel
theorem dL_law_1086 : decode code 1086 = .ok (.iload_n 3, 1) := by decide +kernel
theorem dL_law_1087 : decode code 1087 = .ok (.iconst 3, 1) := by decide +kernel
theorem dL_law_1088 : decode code 1088 = .ok (.iadd, 1) := by decide +kernel
theorem dL_law_1089 : decode code 1089 = .ok (.iaload, 1) := by decide +kernel
theorem dL_law_1090 : decode code 1090 = .ok (.invokevirtual 132, 3) := by decide +kernel
theorem dL_law_1093 : decode code 1093 = .ok (.pop, 1) := by decide +kernel
theorem dL_law_1094 : decode code 1094 = .ok (.goto 788, 3) := by decide +kernel
theorem dL_law_1097 : decode code 1097 = .ok (.aload_n 1, 1) := by decide +kernel
theorem dL_law_1098 : decode code 1098 = .ok (.invokevirtual 133, 3) := by decide +kernel
theorem dL_law_1101 : decode code 1101 = .ok (.pop, 1) := by decide +kernel
theorem dL_law_1102 : decode code 1102 = .ok (.aload_n 2, 1) := by decide +kernel
theorem dL_law_1103 : decode code 1103 = .ok (.invokevirtual 136, 3) := by decide +kernel
theorem dL_law_1106 : decode code 1106 = .ok (.pop, 1) := by decide +kernel
theorem dL_law_1107 : decode code 1107 = .ok (.goto 775, 3) := by decide +kernel
theorem dL_law_1110 : decode code 1110 = .ok (.aload_n 1, 1) := by decide +kernel
theorem dL_law_1111 : decode code 1111 = .ok (.aload_n 0, 1) := by decide +kernel
theorem dL_law_1112 : decode code 1112 = .ok (.iload_n 3, 1) := by decide +kernel
theorem dL_law_1113 : decode code 1113 = .ok (.iconst 1, 1) := by decide +kernel
theorem dL_law_1114 : decode code 1114 = .ok (.iadd, 1) := by decide +kernel
theorem dL_law_1115 : decode code 1115 = .ok (.iaload, 1) := by decide +kernel
theorem dL_law_1116 : decode code 1116 = .ok (.invokevirtual 137, 3) := by decide +kernel
theorem dL_law_1119 : decode code 1119 = .ok (.pop, 1) := by decide +kernel
theorem dL_law_1120 : decode code 1120 = .ok (.aload_n 2, 1) := by decide +kernel
theorem dL_law_1121 : decode code 1121 = .ok (.aload_n 0, 1) := by decide +kernel
theorem dL_law_1122 : decode code 1122 = .ok (.iload_n 3, 1) := by decide +kernel
theorem dL_law_1123 : decode code 1123 = .ok (.iconst 1, 1) := by decide +kernel
theorem dL_law_1124 : decode code 1124 = .ok (.iadd, 1) := by decide +kernel
theorem dL_law_1125 : decode code 1125 = .ok (.iaload, 1) := by decide +kernel
theorem dL_law_1126 : decode code 1126 = .ok (.invokevirtual 141, 3) := by decide +kernel
theorem dL_law_1129 : decode code 1129 = .ok (.pop, 1) := by decide +kernel
theorem dL_law_1130 : decode code 1130 = .ok (.goto 752, 3) := by decide +kernel
theorem dL_law_1133 : decode code 1133 = .ok (.aload_n 1, 1) := by decide +kernel
theorem dL_law_1134 : decode code 1134 = .ok (.invokevirtual 142, 3) := by decide +kernel
theorem dL_law_1137 : decode code 1137 = .ok (.pop, 1) := by decide +kernel
theorem dL_law_1138 : decode code 1138 = .ok (.aload_n 2, 1) := by decide +kernel
theorem dL_law_1139 : decode code 1139 = .ok (.invokevirtual 145, 3) := by decide +kernel
theorem dL_law_1142 : decode code 1142 = .ok (.pop, 1) := by decide +kernel
theorem dL_law_1143 : decode code 1143 = .ok (.goto 739, 3) := by decide +kernel
theorem dL_law_1146 : decode code 1146 = .ok (.aload_n 1, 1) := by decide +kernel
theorem dL_law_1147 : decode code 1147 = .ok (.aload_n 0, 1) := by decide +kernel
theorem dL_law_1148 : decode code 1148 = .ok (.iload_n 3, 1) := by decide +kernel
theorem dL_law_1149 : decode code 1149 = .ok (.iconst 1, 1) := by decide +kernel
theorem dL_law_1150 : decode code 1150 = .ok (.iadd, 1) := by decide +kernel
theorem dL_law_1151 : decode code 1151 = .ok (.iaload, 1) := by decide +kernel
theorem dL_law_1152 : decode code 1152 = .ok (.aload_n 0, 1) := by decide +kernel
theorem dL_law_1153 : decode code 1153 = .ok (.iload_n 3, 1) := by decide +kernel
theorem dL_law_1154 : decode code 1154 = .ok (.iconst 2, 1) := by decide +kernel
theorem dL_law_1155 : decode code 1155 = .ok (.iadd, 1) := by decide +kernel
theorem dL_law_1156 : decode code 1156 = .ok (.iaload, 1) := by decide +kernel
theorem dL_law_1157 : decode code 1157 = .ok (.invokevirtual 146, 3) := by decide +kernel
theorem dL_law_1160 : decode code 1160 = .ok (.pop, 1) := by decide +kernel
theorem dL_law_1161 : decode code 1161 = .ok (.aload_n 2, 1) := by decide +kernel
theorem dL_law_1162 : decode code 1162 = .ok (.aload_n 0, 1) := by decide +kernel
theorem dL_law_1163 : decode code 1163 = .ok (.iload_n 3, 1) := by decide +kernel
theorem dL_law_1164 : decode code 1164 = .ok (.iconst 1, 1) := by decide +kernel
theorem dL_law_1165 : decode code 1165 = .ok (.iadd, 1) := by decide +kernel
theorem dL_law_1166 : decode code 1166 = .ok (.iaload, 1) := by decide +kernel
theorem dL_law_1167 : decode code 1167 = .ok (.aload_n 0, 1) := by decide +kernel
theorem dL_law_1168 : decode code 1168 = .ok (.iload_n 3, 1) := by decide +kernel
theorem dL_law_1169 : decode code 1169 = .ok (.iconst 2, 1) := by decide +kernel
theorem dL_law_1170 : decode code 1170 = .ok (.iadd, 1) := by decide +kernel
theorem dL_law_1171 : decode code 1171 = .ok (.iaload, 1) := by decide +kernel
theorem dL_law_1172 : decode code 1172 = .ok (.invokevirtual 149, 3) := by decide +kernel
theorem dL_law_1175 : decode code 1175 = .ok (.pop, 1) := by decide +kernel
theorem dL_law_1176 : decode code 1176 = .ok (.goto 706, 3) := by decide +kernel
theorem dL_law_1179 : decode code 1179 = .ok (.aload_n 1, 1) := by decide +kernel
theorem dL_law_1180 : decode code 1180 = .ok (.aload_n 0, 1) := by decide +kernel
theorem dL_law_1181 : decode code 1181 = .ok (.iload_n 3, 1) := by decide +kernel
theorem dL_law_1182 : decode code 1182 = .ok (.iconst 1, 1) := by decide +kernel
theorem dL_law_1183 : decode code 1183 = .ok (.iadd, 1) := by decide +kernel
theorem dL_law_1184 : decode code 1184 = .ok (.iaload, 1) := by decide +kernel
theorem dL_law_1185 : decode code 1185 = .ok (.invokevirtual 150, 3) := by decide +kernel
theorem dL_law_1188 : decode code 1188 = .ok (.pop, 1) := by decide +kernel
theorem dL_law_1189 : decode code 1189 = .ok (.aload_n 2, 1) := by decide +kernel
theorem dL_law_1190 : decode code 1190 = .ok (.aload_n 0, 1) := by decide +kernel
theorem dL_law_1191 : decode code 1191 = .ok (.iload_n 3, 1) := by decide +kernel
theorem dL_law_1192 : decode code 1192 = .ok (.iconst 1, 1) := by decide +kernel
theorem dL_law_1193 : decode code 1193 = .ok (.iadd, 1) := by decide +kernel
theorem dL_law_1194 : decode code 1194 = .ok (.iaload, 1) := by decide +kernel
theorem dL_law_1195 : decode code 1195 = .ok (.invokevirtual 153, 3) := by decide +kernel
theorem dL_law_1198 : decode code 1198 = .ok (.pop, 1) := by decide +kernel
theorem dL_law_1199 : decode code 1199 = .ok (.goto 683, 3) := by decide +kernel
theorem dL_law_1202 : decode code 1202 = .ok (.aload_n 1, 1) := by decide +kernel
theorem dL_law_1203 : decode code 1203 = .ok (.aload_n 0, 1) := by decide +kernel
theorem dL_law_1204 : decode code 1204 = .ok (.iload_n 3, 1) := by decide +kernel
theorem dL_law_1205 : decode code 1205 = .ok (.iconst 1, 1) := by decide +kernel
theorem dL_law_1206 : decode code 1206 = .ok (.iadd, 1) := by decide +kernel
theorem dL_law_1207 : decode code 1207 = .ok (.iaload, 1) := by decide +kernel
theorem dL_law_1208 : decode code 1208 = .ok (.invokevirtual 154, 3) := by decide +kernel
theorem dL_law_1211 : decode code 1211 = .ok (.pop, 1) := by decide +kernel
theorem dL_law_1212 : decode code 1212 = .ok (.aload_n 2, 1) := by decide +kernel
theorem dL_law_1213 : decode code 1213 = .ok (.aload_n 0, 1) := by decide +kernel
theorem dL_law_1214 : decode code 1214 = .ok (.iload_n 3, 1) := by decide +kernel
theorem dL_law_1215 : decode code 1215 = .ok (.iconst 1, 1) := by decide +kernel
theorem dL_law_1216 : decode code 1216 = .ok (.iadd, 1) := by decide +kernel
theorem dL_law_1217 : decode code 1217 = .ok (.iaload, 1) := by decide +kernel
theorem dL_law_1218 : decode code 1218 = .ok (.invokevirtual 157, 3) := by decide +kernel
theorem dL_law_1221 : decode code 1221 = .ok (.pop, 1) := by decide +kernel
theorem dL_law_1222 : decode code 1222 = .ok (.goto 660, 3) := by decide +kernel
theorem dL_law_1225 : decode code 1225 = .ok (.aload_n 1, 1) := by decide +kernel
theorem dL_law_1226 : decode code 1226 = .ok (.aload_n 0, 1) := by decide +kernel
theorem dL_law_1227 : decode code 1227 = .ok (.iload_n 3, 1) := by decide +kernel
theorem dL_law_1228 : decode code 1228 = .ok (.iconst 1, 1) := by decide +kernel
theorem dL_law_1229 : decode code 1229 = .ok (.iadd, 1) := by decide +kernel
theorem dL_law_1230 : decode code 1230 = .ok (.iaload, 1) := by decide +kernel
theorem dL_law_1231 : decode code 1231 = .ok (.aload_n 0, 1) := by decide +kernel
theorem dL_law_1232 : decode code 1232 = .ok (.iload_n 3, 1) := by decide +kernel
theorem dL_law_1233 : decode code 1233 = .ok (.iconst 2, 1) := by decide +kernel
theorem dL_law_1234 : decode code 1234 = .ok (.iadd, 1) := by decide +kernel
theorem dL_law_1235 : decode code 1235 = .ok (.iaload, 1) := by decide +kernel
theorem dL_law_1236 : decode code 1236 = .ok (.aload_n 0, 1) := by decide +kernel
theorem dL_law_1237 : decode code 1237 = .ok (.iload_n 3, 1) := by decide +kernel
theorem dL_law_1238 : decode code 1238 = .ok (.iconst 3, 1) := by decide +kernel
theorem dL_law_1239 : decode code 1239 = .ok (.iadd, 1) := by decide +kernel
theorem dL_law_1240 : decode code 1240 = .ok (.iaload, 1) := by decide +kernel
theorem dL_law_1241 : decode code 1241 = .ok (.invokevirtual 158, 3) := by decide +kernel
theorem dL_law_1244 : decode code 1244 = .ok (.pop, 1) := by decide +kernel
theorem dL_law_1245 : decode code 1245 = .ok (.aload_n 2, 1) := by decide +kernel
theorem dL_law_1246 : decode code 1246 = .ok (.aload_n 0, 1) := by decide +kernel
theorem dL_law_1247 : decode code 1247 = .ok (.iload_n 3, 1) := by decide +kernel
theorem dL_law_1248 : decode code 1248 = .ok (.iconst 1, 1) := by decide +kernel
theorem dL_law_1249 : decode code 1249 = .ok (.iadd, 1) := by decide +kernel
theorem dL_law_1250 : decode code 1250 = .ok (.iaload, 1) := by decide +kernel
theorem dL_law_1251 : decode code 1251 = .ok (.aload_n 0, 1) := by decide +kernel
theorem dL_law_1252 : decode code 1252 = .ok (.iload_n 3, 1) := by decide +kernel
theorem dL_law_1253 : decode code 1253 = .ok (.iconst 2, 1) := by decide +kernel
theorem dL_law_1254 : decode code 1254 = .ok (.iadd, 1) := by decide +kernel
theorem dL_law_1255 : decode code 1255 = .ok (.iaload, 1) := by decide +kernel
theorem dL_law_1256 : decode code 1256 = .ok (.aload_n 0, 1) := by decide +kernel
theorem dL_law_1257 : decode code 1257 = .ok (.iload_n 3, 1) := by decide +kernel
theorem dL_law_1258 : decode code 1258 = .ok (.iconst 3, 1) := by decide +kernel
theorem dL_law_1259 : decode code 1259 = .ok (.iadd, 1) := by decide +kernel
theorem dL_law_1260 : decode code 1260 = .ok (.iaload, 1) := by decide +kernel
theorem dL_law_1261 : decode code 1261 = .ok (.invokevirtual 161, 3) := by decide +kernel
theorem dL_law_1264 : decode code 1264 = .ok (.pop, 1) := by decide +kernel
theorem dL_law_1265 : decode code 1265 = .ok (.goto 617, 3) := by decide +kernel
theorem dL_law_1268 : decode code 1268 = .ok (.aload_n 1, 1) := by decide +kernel
theorem dL_law_1269 : decode code 1269 = .ok (.aload_n 0, 1) := by decide +kernel
theorem dL_law_1270 : decode code 1270 = .ok (.iload_n 3, 1) := by decide +kernel
theorem dL_law_1271 : decode code 1271 = .ok (.iconst 1, 1) := by decide +kernel
theorem dL_law_1272 : decode code 1272 = .ok (.iadd, 1) := by decide +kernel
theorem dL_law_1273 : decode code 1273 = .ok (.iaload, 1) := by decide +kernel
theorem dL_law_1274 : decode code 1274 = .ok (.invokevirtual 162, 3) := by decide +kernel
theorem dL_law_1277 : decode code 1277 = .ok (.pop, 1) := by decide +kernel
theorem dL_law_1278 : decode code 1278 = .ok (.aload_n 2, 1) := by decide +kernel
theorem dL_law_1279 : decode code 1279 = .ok (.aload_n 0, 1) := by decide +kernel
theorem dL_law_1280 : decode code 1280 = .ok (.iload_n 3, 1) := by decide +kernel
theorem dL_law_1281 : decode code 1281 = .ok (.iconst 1, 1) := by decide +kernel
theorem dL_law_1282 : decode code 1282 = .ok (.iadd, 1) := by decide +kernel
theorem dL_law_1283 : decode code 1283 = .ok (.iaload, 1) := by decide +kernel
theorem dL_law_1284 : decode code 1284 = .ok (.invokevirtual 165, 3) := by decide +kernel
theorem dL_law_1287 : decode code 1287 = .ok (.pop, 1) := by decide +kernel
theorem dL_law_1288 : decode code 1288 = .ok (.goto 594, 3) := by decide +kernel
theorem dL_law_1291 : decode code 1291 = .ok (.aload_n 1, 1) := by decide +kernel
theorem dL_law_1292 : decode code 1292 = .ok (.invokevirtual 166, 3) := by decide +kernel
theorem dL_law_1295 : decode code 1295 = .ok (.pop, 1) := by decide +kernel
theorem dL_law_1296 : decode code 1296 = .ok (.aload_n 2, 1) := by decide +kernel
theorem dL_law_1297 : decode code 1297 = .ok (.invokevirtual 169, 3) := by decide +kernel
theorem dL_law_1300 : decode code 1300 = .ok (.pop, 1) := by decide +kernel
theorem dL_law_1301 : decode code 1301 = .ok (.goto 581, 3) := by decide +kernel
theorem dL_law_1304 : decode code 1304 = .ok (.aload_n 1, 1) := by decide +kernel
theorem dL_law_1305 : decode code 1305 = .ok (.invokevirtual 170, 3) := by decide +kernel
theorem dL_law_1308 : decode code 1308 = .ok (.pop, 1) := by decide +kernel
theorem dL_law_1309 : decode code 1309 = .ok (.aload_n 2, 1) := by decide +kernel
theorem dL_law_1310 : decode code 1310 = .ok (.invokevirtual 173, 3) := by decide +kernel
theorem dL_law_1313 : decode code 1313 = .ok (.pop, 1) := by decide +kernel
theorem dL_law_1314 : decode code 1314 = .ok (.goto 568, 3) := by decide +kernel
theorem dL_law_1317 : decode code 1317 = .ok (.aload_n 1, 1) := by decide +kernel
theorem dL_law_1318 : decode code 1318 = .ok (.aload_n 0, 1) := by decide +kernel
theorem dL_law_1319 : decode code 1319 = .ok (.iload_n 3, 1) := by decide +kernel
theorem dL_law_1320 : decode code 1320 = .ok (.iconst 1, 1) := by decide +kernel
theorem dL_law_1321 : decode code 1321 = .ok (.iadd, 1) := by decide +kernel
theorem dL_law_1322 : decode code 1322 = .ok (.iaload, 1) := by decide +kernel
theorem dL_law_1323 : decode code 1323 = .ok (.invokevirtual 174, 3) := by decide +kernel
theorem dL_law_1326 : decode code 1326 = .ok (.pop, 1) := by decide +kernel
theorem dL_law_1327 : decode code 1327 = .ok (.aload_n 2, 1) := by decide +kernel
theorem dL_law_1328 : decode code 1328 = .ok (.aload_n 0, 1) := by decide +kernel
theorem dL_law_1329 : decode code 1329 = .ok (.iload_n 3, 1) := by decide +kernel
theorem dL_law_1330 : decode code 1330 = .ok (.iconst 1, 1) := by decide +kernel
theorem dL_law_1331 : decode code 1331 = .ok (.iadd, 1) := by decide +kernel
theorem dL_law_1332 : decode code 1332 = .ok (.iaload, 1) := by decide +kernel
theorem dL_law_1333 : decode code 1333 = .ok (.invokevirtual 177, 3) := by decide +kernel
theorem dL_law_1336 : decode code 1336 = .ok (.pop, 1) := by decide +kernel
theorem dL_law_1337 : decode code 1337 = .ok (.goto 545, 3) := by decide +kernel
theorem dL_law_1340 : decode code 1340 = .ok (.aload_n 1, 1) := by decide +kernel
theorem dL_law_1341 : decode code 1341 = .ok (.invokevirtual 178, 3) := by decide +kernel
theorem dL_law_1344 : decode code 1344 = .ok (.pop, 1) := by decide +kernel
theorem dL_law_1345 : decode code 1345 = .ok (.aload_n 2, 1) := by decide +kernel
theorem dL_law_1346 : decode code 1346 = .ok (.invokevirtual 181, 3) := by decide +kernel
theorem dL_law_1349 : decode code 1349 = .ok (.pop, 1) := by decide +kernel
theorem dL_law_1350 : decode code 1350 = .ok (.goto 532, 3) := by decide +kernel
theorem dL_law_1353 : decode code 1353 = .ok (.aload_n 1, 1) := by decide +kernel
theorem dL_law_1354 : decode code 1354 = .ok (.invokevirtual 182, 3) := by decide +kernel
theorem dL_law_1357 : decode code 1357 = .ok (.pop, 1) := by decide +kernel
theorem dL_law_1358 : decode code 1358 = .ok (.aload_n 2, 1) := by decide +kernel
theorem dL_law_1359 : decode code 1359 = .ok (.invokevirtual 185, 3) := by decide +kernel
theorem dL_law_1362 : decode code 1362 = .ok (.pop, 1) := by decide +kernel
theorem dL_law_1363 : decode code 1363 = .ok (.goto 519, 3) := by decide +kernel
theorem dL_law_1366 : decode code 1366 = .ok (.aload_n 1, 1) := by decide +kernel
theorem dL_law_1367 : decode code 1367 = .ok (.aload_n 0, 1) := by decide +kernel
theorem dL_law_1368 : decode code 1368 = .ok (.iload_n 3, 1) := by decide +kernel
theorem dL_law_1369 : decode code 1369 = .ok (.iconst 1, 1) := by decide +kernel
theorem dL_law_1370 : decode code 1370 = .ok (.iadd, 1) := by decide +kernel
theorem dL_law_1371 : decode code 1371 = .ok (.iaload, 1) := by decide +kernel
theorem dL_law_1372 : decode code 1372 = .ok (.invokevirtual 186, 3) := by decide +kernel
theorem dL_law_1375 : decode code 1375 = .ok (.pop, 1) := by decide +kernel
theorem dL_law_1376 : decode code 1376 = .ok (.aload_n 2, 1) := by decide +kernel
theorem dL_law_1377 : decode code 1377 = .ok (.aload_n 0, 1) := by decide +kernel
theorem dL_law_1378 : decode code 1378 = .ok (.iload_n 3, 1) := by decide +kernel
theorem dL_law_1379 : decode code 1379 = .ok (.iconst 1, 1) := by decide +kernel
theorem dL_law_1380 : decode code 1380 = .ok (.iadd, 1) := by decide +kernel
theorem dL_law_1381 : decode code 1381 = .ok (.iaload, 1) := by decide +kernel
theorem dL_law_1382 : decode code 1382 = .ok (.invokevirtual 189, 3) := by decide +kernel
theorem dL_law_1385 : decode code 1385 = .ok (.pop, 1) := by decide +kernel
theorem dL_law_1386 : decode code 1386 = .ok (.goto 496, 3) := by decide +kernel
theorem dL_law_1389 : decode code 1389 = .ok (.aload_n 1, 1) := by decide +kernel
theorem dL_law_1390 : decode code 1390 = .ok (.invokevirtual 190, 3) := by decide +kernel
theorem dL_law_1393 : decode code 1393 = .ok (.pop, 1) := by decide +kernel
theorem dL_law_1394 : decode code 1394 = .ok (.aload_n 2, 1) := by decide +kernel
theorem dL_law_1395 : decode code 1395 = .ok (.invokevirtual 193, 3) := by decide +kernel
theorem dL_law_1398 : decode code 1398 = .ok (.pop, 1) := by decide +kernel
theorem dL_law_1399 : decode code 1399 = .ok (.goto 483, 3) := by decide +kernel
theorem dL_law_1402 : decode code 1402 = .ok (.aload_n 1, 1) := by decide +kernel
theorem dL_law_1403 : decode code 1403 = .ok (.aload_n 0, 1) := by decide +kernel
theorem dL_law_1404 : decode code 1404 = .ok (.iload_n 3, 1) := by decide +kernel
theorem dL_law_1405 : decode code 1405 = .ok (.iconst 1, 1) := by decide +kernel
theorem dL_law_1406 : decode code 1406 = .ok (.iadd, 1) := by decide +kernel
theorem dL_law_1407 : decode code 1407 = .ok (.iaload, 1) := by decide +kernel
theorem dL_law_1408 : decode code 1408 = .ok (.invokevirtual 194, 3) := by decide +kernel
theorem dL_law_1411 : decode code 1411 = .ok (.pop, 1) := by decide +kernel
theorem dL_law_1412 : decode code 1412 = .ok (.aload_n 2, 1) := by decide +kernel
theorem dL_law_1413 : decode code 1413 = .ok (.aload_n 0, 1) := by decide +kernel
theorem dL_law_1414 : decode code 1414 = .ok (.iload_n 3, 1) := by decide +kernel
theorem dL_law_1415 : decode code 1415 = .ok (.iconst 1, 1) := by decide +kernel
theorem dL_law_1416 : decode code 1416 = .ok (.iadd, 1) := by decide +kernel
theorem dL_law_1417 : decode code 1417 = .ok (.iaload, 1) := by decide +kernel
theorem dL_law_1418 : decode code 1418 = .ok (.invokevirtual 197, 3) := by decide +kernel
theorem dL_law_1421 : decode code 1421 = .ok (.pop, 1) := by decide +kernel
theorem dL_law_1422 : decode code 1422 = .ok (.goto 460, 3) := by decide +kernel
theorem dL_law_1425 : decode code 1425 = .ok (.aload_n 1, 1) := by decide +kernel
theorem dL_law_1426 : decode code 1426 = .ok (.invokevirtual 198, 3) := by decide +kernel
theorem dL_law_1429 : decode code 1429 = .ok (.pop, 1) := by decide +kernel
theorem dL_law_1430 : decode code 1430 = .ok (.aload_n 2, 1) := by decide +kernel
theorem dL_law_1431 : decode code 1431 = .ok (.invokevirtual 201, 3) := by decide +kernel
theorem dL_law_1434 : decode code 1434 = .ok (.pop, 1) := by decide +kernel
theorem dL_law_1435 : decode code 1435 = .ok (.goto 447, 3) := by decide +kernel
theorem dL_law_1438 : decode code 1438 = .ok (.aload_n 1, 1) := by decide +kernel
theorem dL_law_1439 : decode code 1439 = .ok (.aload_n 0, 1) := by decide +kernel
theorem dL_law_1440 : decode code 1440 = .ok (.iload_n 3, 1) := by decide +kernel
theorem dL_law_1441 : decode code 1441 = .ok (.iconst 1, 1) := by decide +kernel
theorem dL_law_1442 : decode code 1442 = .ok (.iadd, 1) := by decide +kernel
theorem dL_law_1443 : decode code 1443 = .ok (.iaload, 1) := by decide +kernel
theorem dL_law_1444 : decode code 1444 = .ok (.invokevirtual 202, 3) := by decide +kernel
theorem dL_law_1447 : decode code 1447 = .ok (.pop, 1) := by decide +kernel
theorem dL_law_1448 : decode code 1448 = .ok (.aload_n 2, 1) := by decide +kernel
theorem dL_law_1449 : decode code 1449 = .ok (.aload_n 0, 1) := by decide +kernel
theorem dL_law_1450 : decode code 1450 = .ok (.iload_n 3, 1) := by decide +kernel
theorem dL_law_1451 : decode code 1451 = .ok (.iconst 1, 1) := by decide +kernel
theorem dL_law_1452 : decode code 1452 = .ok (.iadd, 1) := by decide +kernel
theorem dL_law_1453 : decode code 1453 = .ok (.iaload, 1) := by decide +kernel
theorem dL_law_1454 : decode code 1454 = .ok (.invokevirtual 205, 3) := by decide +kernel
theorem dL_law_1457 : decode code 1457 = .ok (.pop, 1) := by decide +kernel
theorem dL_law_1458 : decode code 1458 = .ok (.goto 424, 3) := by decide +kernel
theorem dL_law_1461 : decode code 1461 = .ok (.aload_n 1, 1) := by decide +kernel
theorem dL_law_1462 : decode code 1462 = .ok (.aload_n 0, 1) := by decide +kernel
theorem dL_law_1463 : decode code 1463 = .ok (.iload_n 3, 1) := by decide +kernel
theorem dL_law_1464 : decode code 1464 = .ok (.iconst 1, 1) := by decide +kernel
theorem dL_law_1465 : decode code 1465 = .ok (.iadd, 1) := by decide +kernel
theorem dL_law_1466 : decode code 1466 = .ok (.iaload, 1) := by decide +kernel
theorem dL_law_1467 : decode code 1467 = .ok (.invokevirtual 206, 3) := by decide +kernel
theorem dL_law_1470 : decode code 1470 = .ok (.pop, 1) := by decide +kernel
theorem dL_law_1471 : decode code 1471 = .ok (.aload_n 2, 1) := by decide +kernel
theorem dL_law_1472 : decode code 1472 = .ok (.aload_n 0, 1) := by decide +kernel
theorem dL_law_1473 : decode code 1473 = .ok (.iload_n 3, 1) := by decide +kernel
theorem dL_law_1474 : decode code 1474 = .ok (.iconst 1, 1) := by decide +kernel
theorem dL_law_1475 : decode code 1475 = .ok (.iadd, 1) := by decide +kernel
theorem dL_law_1476 : decode code 1476 = .ok (.iaload, 1) := by decide +kernel
theorem dL_law_1477 : decode code 1477 = .ok (.invokevirtual 209, 3) := by decide +kernel
theorem dL_law_1480 : decode code 1480 = .ok (.pop, 1) := by decide +kernel
theorem dL_law_1481 : decode code 1481 = .ok (.goto 401, 3) := by decide +kernel
theorem dL_law_1484 : decode code 1484 = .ok (.aload_n 1, 1) := by decide +kernel
theorem dL_law_1485 : decode code 1485 = .ok (.aload_n 0, 1) := by decide +kernel
theorem dL_law_1486 : decode code 1486 = .ok (.iload_n 3, 1) := by decide +kernel
theorem dL_law_1487 : decode code 1487 = .ok (.iconst 1, 1) := by decide +kernel
theorem dL_law_1488 : decode code 1488 = .ok (.iadd, 1) := by decide +kernel
theorem dL_law_1489 : decode code 1489 = .ok (.iaload, 1) := by decide +kernel
theorem dL_law_1490 : decode code 1490 = .ok (.invokevirtual 210, 3) := by decide +kernel
theorem dL_law_1493 : decode code 1493 = .ok (.pop, 1) := by decide +kernel
theorem dL_law_1494 : decode code 1494 = .ok (.aload_n 2, 1) := by decide +kernel
theorem dL_law_1495 : decode code 1495 = .ok (.aload_n 0, 1) := by decide +kernel
theorem dL_law_1496 : decode code 1496 = .ok (.iload_n 3, 1) := by decide +kernel
theorem dL_law_1497 : decode code 1497 = .ok (.iconst 1, 1) := by decide +kernel
theorem dL_law_1498 : decode code 1498 = .ok (.iadd, 1) := by decide +kernel
theorem dL_law_1499 : decode code 1499 = .ok (.iaload, 1) := by decide +kernel
theorem dL_law_1500 : decode code 1500 = .ok (.invokevirtual 213, 3) := by decide +kernel
theorem dL_law_1503 : decode code 1503 = .ok (.pop, 1) := by decide +kernel
theorem dL_law_1504 : decode code 1504 = .ok (.goto 378, 3) := by decide +kernel
theorem dL_law_1507 : decode code 1507 = .ok (.aload_n 1, 1) := by decide +kernel
theorem dL_law_1508 : decode code 1508 = .ok (.invokevirtual 214, 3) := by decide +kernel
theorem dL_law_1511 : decode code 1511 = .ok (.pop, 1) := by decide +kernel
theorem dL_law_1512 : decode code 1512 = .ok (.aload_n 2, 1) := by decide +kernel
theorem dL_law_1513 : decode code 1513 = .ok (.invokevirtual 217, 3) := by decide +kernel
theorem dL_law_1516 : decode code 1516 = .ok (.pop, 1) := by decide +kernel
theorem dL_law_1517 : decode code 1517 = .ok (.goto 365, 3) := by decide +kernel
theorem dL_law_1520 : decode code 1520 = .ok (.aload_n 1, 1) := by decide +kernel
theorem dL_law_1521 : decode code 1521 = .ok (.invokevirtual 218, 3) := by decide +kernel
theorem dL_law_1524 : decode code 1524 = .ok (.pop, 1) := by decide +kernel
theorem dL_law_1525 : decode code 1525 = .ok (.aload_n 2, 1) := by decide +kernel
theorem dL_law_1526 : decode code 1526 = .ok (.invokevirtual 221, 3) := by decide +kernel
theorem dL_law_1529 : decode code 1529 = .ok (.pop, 1) := by decide +kernel
theorem dL_law_1530 : decode code 1530 = .ok (.goto 352, 3) := by decide +kernel
theorem dL_law_1533 : decode code 1533 = .ok (.aload_n 1, 1) := by decide +kernel
theorem dL_law_1534 : decode code 1534 = .ok (.aload_n 0, 1) := by decide +kernel
theorem dL_law_1535 : decode code 1535 = .ok (.iload_n 3, 1) := by decide +kernel
theorem dL_law_1536 : decode code 1536 = .ok (.iconst 1, 1) := by decide +kernel
theorem dL_law_1537 : decode code 1537 = .ok (.iadd, 1) := by decide +kernel
theorem dL_law_1538 : decode code 1538 = .ok (.iaload, 1) := by decide +kernel
theorem dL_law_1539 : decode code 1539 = .ok (.invokevirtual 222, 3) := by decide +kernel
theorem dL_law_1542 : decode code 1542 = .ok (.pop, 1) := by decide +kernel
theorem dL_law_1543 : decode code 1543 = .ok (.aload_n 2, 1) := by decide +kernel
theorem dL_law_1544 : decode code 1544 = .ok (.aload_n 0, 1) := by decide +kernel
theorem dL_law_1545 : decode code 1545 = .ok (.iload_n 3, 1) := by decide +kernel
theorem dL_law_1546 : decode code 1546 = .ok (.iconst 1, 1) := by decide +kernel
theorem dL_law_1547 : decode code 1547 = .ok (.iadd, 1) := by decide +kernel
theorem dL_law_1548 : decode code 1548 = .ok (.iaload, 1) := by decide +kernel
theorem dL_law_1549 : decode code 1549 = .ok (.invokevirtual 225, 3) := by decide +kernel
theorem dL_law_1552 : decode code 1552 = .ok (.pop, 1) := by decide +kernel
theorem dL_law_1553 : decode code 1553 = .ok (.goto 329, 3) := by decide +kernel
theorem dL_law_1556 : decode code 1556 = .ok (.aload_n 1, 1) := by decide +kernel
theorem dL_law_1557 : decode code 1557 = .ok (.aload_n 0, 1) := by decide +kernel
theorem dL_law_1558 : decode code 1558 = .ok (.iload_n 3, 1) := by decide +kernel
theorem dL_law_1559 : decode code 1559 = .ok (.iconst 1, 1) := by decide +kernel
theorem dL_law_1560 : decode code 1560 = .ok (.iadd, 1) := by decide +kernel
theorem dL_law_1561 : decode code 1561 = .ok (.iaload, 1) := by decide +kernel
theorem dL_law_1562 : decode code 1562 = .ok (.aload_n 0, 1) := by decide +kernel
theorem dL_law_1563 : decode code 1563 = .ok (.iload_n 3, 1) := by decide +kernel
theorem dL_law_1564 : decode code 1564 = .ok (.iconst 2, 1) := by decide +kernel
theorem dL_law_1565 : decode code 1565 = .ok (.iadd, 1) := by decide +kernel
theorem dL_law_1566 : decode code 1566 = .ok (.iaload, 1) := by decide +kernel
theorem dL_law_1567 : decode code 1567 = .ok (.invokevirtual 226, 3) := by decide +kernel
theorem dL_law_1570 : decode code 1570 = .ok (.pop, 1) := by decide +kernel
theorem dL_law_1571 : decode code 1571 = .ok (.aload_n 2, 1) := by decide +kernel
theorem dL_law_1572 : decode code 1572 = .ok (.aload_n 0, 1) := by decide +kernel
theorem dL_law_1573 : decode code 1573 = .ok (.iload_n 3, 1) := by decide +kernel
theorem dL_law_1574 : decode code 1574 = .ok (.iconst 1, 1) := by decide +kernel
theorem dL_law_1575 : decode code 1575 = .ok (.iadd, 1) := by decide +kernel
theorem dL_law_1576 : decode code 1576 = .ok (.iaload, 1) := by decide +kernel
theorem dL_law_1577 : decode code 1577 = .ok (.aload_n 0, 1) := by decide +kernel
theorem dL_law_1578 : decode code 1578 = .ok (.iload_n 3, 1) := by decide +kernel
theorem dL_law_1579 : decode code 1579 = .ok (.iconst 2, 1) := by decide +kernel
theorem dL_law_1580 : decode code 1580 = .ok (.iadd, 1) := by decide +kernel
theorem dL_law_1581 : decode code 1581 = .ok (.iaload, 1) := by decide +kernel
theorem dL_law_1582 : decode code 1582 = .ok (.invokevirtual 229, 3) := by decide +kernel
theorem dL_law_1585 : decode code 1585 = .ok (.pop, 1) := by decide +kernel
theorem dL_law_1586 : decode code 1586 = .ok (.goto 296, 3) := by decide +kernel
theorem dL_law_1589 : decode code 1589 = .ok (.aload_n 1, 1) := by decide +kernel
theorem dL_law_1590 : decode code 1590 = .ok (.aload_n 0, 1) := by decide +kernel
theorem dL_law_1591 : decode code 1591 = .ok (.iload_n 3, 1) := by decide +kernel
theorem dL_law_1592 : decode code 1592 = .ok (.iconst 1, 1) := by decide +kernel
theorem dL_law_1593 : decode code 1593 = .ok (.iadd, 1) := by decide +kernel
theorem dL_law_1594 : decode code 1594 = .ok (.iaload, 1) := by decide +kernel
theorem dL_law_1595 : decode code 1595 = .ok (.invokevirtual 230, 3) := by decide +kernel
theorem dL_law_1598 : decode code 1598 = .ok (.pop, 1) := by decide +kernel
theorem dL_law_1599 : decode code 1599 = .ok (.aload_n 2, 1) := by decide +kernel
theorem dL_law_1600 : decode code 1600 = .ok (.aload_n 0, 1) := by decide +kernel
theorem dL_law_1601 : decode code 1601 = .ok (.iload_n 3, 1) := by decide +kernel
theorem dL_law_1602 : decode code 1602 = .ok (.iconst 1, 1) := by decide +kernel
theorem dL_law_1603 : decode code 1603 = .ok (.iadd, 1) := by decide +kernel
theorem dL_law_1604 : decode code 1604 = .ok (.iaload, 1) := by decide +kernel
theorem dL_law_1605 : decode code 1605 = .ok (.invokevirtual 233, 3) := by decide +kernel
theorem dL_law_1608 : decode code 1608 = .ok (.pop, 1) := by decide +kernel
theorem dL_law_1609 : decode code 1609 = .ok (.goto 273, 3) := by decide +kernel
theorem dL_law_1612 : decode code 1612 = .ok (.aload_n 1, 1) := by decide +kernel
theorem dL_law_1613 : decode code 1613 = .ok (.aload_n 0, 1) := by decide +kernel
theorem dL_law_1614 : decode code 1614 = .ok (.iload_n 3, 1) := by decide +kernel
theorem dL_law_1615 : decode code 1615 = .ok (.iconst 1, 1) := by decide +kernel
theorem dL_law_1616 : decode code 1616 = .ok (.iadd, 1) := by decide +kernel
theorem dL_law_1617 : decode code 1617 = .ok (.iaload, 1) := by decide +kernel
theorem dL_law_1618 : decode code 1618 = .ok (.invokevirtual 234, 3) := by decide +kernel
theorem dL_law_1621 : decode code 1621 = .ok (.pop, 1) := by decide +kernel
theorem dL_law_1622 : decode code 1622 = .ok (.aload_n 2, 1) := by decide +kernel
theorem dL_law_1623 : decode code 1623 = .ok (.aload_n 0, 1) := by decide +kernel
theorem dL_law_1624 : decode code 1624 = .ok (.iload_n 3, 1) := by decide +kernel
theorem dL_law_1625 : decode code 1625 = .ok (.iconst 1, 1) := by decide +kernel
theorem dL_law_1626 : decode code 1626 = .ok (.iadd, 1) := by decide +kernel
theorem dL_law_1627 : decode code 1627 = .ok (.iaload, 1) := by decide +kernel
theorem dL_law_1628 : decode code 1628 = .ok (.invokevirtual 237, 3) := by decide +kernel
theorem dL_law_1631 : decode code 1631 = .ok (.pop, 1) := by decide +kernel
theorem dL_law_1632 : decode code 1632 = .ok (.goto 250, 3) := by decide +kernel
theorem dL_law_1635 : decode code 1635 = .ok (.aload_n 1, 1) := by decide +kernel
theorem dL_law_1636 : decode code 1636 = .ok (.aload_n 0, 1) := by decide +kernel
theorem dL_law_1637 : decode code 1637 = .ok (.iload_n 3, 1) := by decide +kernel
theorem dL_law_1638 : decode code 1638 = .ok (.iconst 1, 1) := by decide +kernel
theorem dL_law_1639 : decode code 1639 = .ok (.iadd, 1) := by decide +kernel
theorem dL_law_1640 : decode code 1640 = .ok (.iaload, 1) := by decide +kernel
theorem dL_law_1641 : decode code 1641 = .ok (.invokevirtual 238, 3) := by decide +kernel
theorem dL_law_1644 : decode code 1644 = .ok (.pop, 1) := by decide +kernel
theorem dL_law_1645 : decode code 1645 = .ok (.aload_n 2, 1) := by decide +kernel
theorem dL_law_1646 : decode code 1646 = .ok (.aload_n 0, 1) := by decide +kernel
theorem dL_law_1647 : decode code 1647 = .ok (.iload_n 3, 1) := by decide +kernel
theorem dL_law_1648 : decode code 1648 = .ok (.iconst 1, 1) := by decide +kernel
theorem dL_law_1649 : decode code 1649 = .ok (.iadd, 1) := by decide +kernel
theorem dL_law_1650 : decode code 1650 = .ok (.iaload, 1) := by decide +kernel
theorem dL_law_1651 : decode code 1651 = .ok (.invokevirtual 241, 3) := by decide +kernel
theorem dL_law_1654 : decode code 1654 = .ok (.pop, 1) := by decide +kernel
theorem dL_law_1655 : decode code 1655 = .ok (.goto 227, 3) := by decide +kernel
theorem dL_law_1658 : decode code 1658 = .ok (.aload_n 1, 1) := by decide +kernel
theorem dL_law_1659 : decode code 1659 = .ok (.aload_n 0, 1) := by decide +kernel
theorem dL_law_1660 : decode code 1660 = .ok (.iload_n 3, 1) := by decide +kernel
theorem dL_law_1661 : decode code 1661 = .ok (.iconst 1, 1) := by decide +kernel
theorem dL_law_1662 : decode code 1662 = .ok (.iadd, 1) := by decide +kernel
theorem dL_law_1663 : decode code 1663 = .ok (.iaload, 1) := by decide +kernel
theorem dL_law_1664 : decode code 1664 = .ok (.aload_n 0, 1) := by decide +kernel
theorem dL_law_1665 : decode code 1665 = .ok (.iload_n 3, 1) := by decide +kernel
theorem dL_law_1666 : decode code 1666 = .ok (.iconst 2, 1) := by decide +kernel
theorem dL_law_1667 : decode code 1667 = .ok (.iadd, 1) := by decide +kernel
theorem dL_law_1668 : decode code 1668 = .ok (.iaload, 1) := by decide +kernel
theorem dL_law_1669 : decode code 1669 = .ok (.aload_n 0, 1) := by decide +kernel
theorem dL_law_1670 : decode code 1670 = .ok (.iload_n 3, 1) := by decide +kernel
theorem dL_law_1671 : decode code 1671 = .ok (.iconst 3, 1) := by decide +kernel
theorem dL_law_1672 : decode code 1672 = .ok (.iadd, 1) := by decide +kernel
theorem dL_law_1673 : decode code 1673 = .ok (.iaload, 1) := by decide +kernel
theorem dL_law_1674 : decode code 1674 = .ok (.invokevirtual 242, 3) := by decide +kernel
theorem dL_law_1677 : decode code 1677 = .ok (.pop, 1) := by decide +kernel
theorem dL_law_1678 : decode code 1678 = .ok (.aload_n 2, 1) := by decide +kernel
theorem dL_law_1679 : decode code 1679 = .ok (.aload_n 0, 1) := by decide +kernel
theorem dL_law_1680 : decode code 1680 = .ok (.iload_n 3, 1) := by decide +kernel
theorem dL_law_1681 : decode code 1681 = .ok (.iconst 1, 1) := by decide +kernel
theorem dL_law_1682 : decode code 1682 = .ok (.iadd, 1) := by decide +kernel
theorem dL_law_1683 : decode code 1683 = .ok (.iaload, 1) := by decide +kernel
theorem dL_law_1684 : decode code 1684 = .ok (.aload_n 0, 1) := by decide +kernel
theorem dL_law_1685 : decode code 1685 = .ok (.iload_n 3, 1) := by decide +kernel
theorem dL_law_1686 : decode code 1686 = .ok (.iconst 2, 1) := by decide +kernel
theorem dL_law_1687 : decode code 1687 = .ok (.iadd, 1) := by decide +kernel
theorem dL_law_1688 : decode code 1688 = .ok (.iaload, 1) := by decide +kernel
theorem dL_law_1689 : decode code 1689 = .ok (.aload_n 0, 1) := by decide +kernel
theorem dL_law_1690 : decode code 1690 = .ok (.iload_n 3, 1) := by decide +kernel
theorem dL_law_1691 : decode code 1691 = .ok (.iconst 3, 1) := by decide +kernel
theorem dL_law_1692 : decode code 1692 = .ok (.iadd, 1) := by decide +kernel
theorem dL_law_1693 : decode code 1693 = .ok (.iaload, 1) := by decide +kernel
theorem dL_law_1694 : decode code 1694 = .ok (.invokevirtual 245, 3) := by decide +kernel
theorem dL_law_1697 : decode code 1697 = .ok (.pop, 1) := by decide +kernel
theorem dL_law_1698 : decode code 1698 = .ok (.goto 184, 3) := by decide +kernel
theorem dL_law_1701 : decode code 1701 = .ok (.aload_n 1, 1) := by decide +kernel
theorem dL_law_1702 : decode code 1702 = .ok (.aload_n 0, 1) := by decide +kernel
theorem dL_law_1703 : decode code 1703 = .ok (.iload_n 3, 1) := by decide +kernel
theorem dL_law_1704 : decode code 1704 = .ok (.iconst 1, 1) := by decide +kernel
theorem dL_law_1705 : decode code 1705 = .ok (.iadd, 1) := by decide +kernel
theorem dL_law_1706 : decode code 1706 = .ok (.iaload, 1) := by decide +kernel
theorem dL_law_1707 : decode code 1707 = .ok (.aload_n 0, 1) := by decide +kernel
theorem dL_law_1708 : decode code 1708 = .ok (.iload_n 3, 1) := by decide +kernel
theorem dL_law_1709 : decode code 1709 = .ok (.iconst 2, 1) := by decide +kernel
theorem dL_law_1710 : decode code 1710 = .ok (.iadd, 1) := by decide +kernel
theorem dL_law_1711 : decode code 1711 = .ok (.iaload, 1) := by decide +kernel
theorem dL_law_1712 : decode code 1712 = .ok (.invokevirtual 246, 3) := by decide +kernel
theorem dL_law_1715 : decode code 1715 = .ok (.pop, 1) := by decide +kernel
theorem dL_law_1716 : decode code 1716 = .ok (.aload_n 2, 1) := by decide +kernel
theorem dL_law_1717 : decode code 1717 = .ok (.aload_n 0, 1) := by decide +kernel
theorem dL_law_1718 : decode code 1718 = .ok (.iload_n 3, 1) := by decide +kernel
theorem dL_law_1719 : decode code 1719 = .ok (.iconst 1, 1) := by decide +kernel
theorem dL_law_1720 : decode code 1720 = .ok (.iadd, 1) := by decide +kernel
theorem dL_law_1721 : decode code 1721 = .ok (.iaload, 1) := by decide +kernel
theorem dL_law_1722 : decode code 1722 = .ok (.aload_n 0, 1) := by decide +kernel
theorem dL_law_1723 : decode code 1723 = .ok (.iload_n 3, 1) := by decide +kernel
theorem dL_law_1724 : decode code 1724 = .ok (.iconst 2, 1) := by decide +kernel
theorem dL_law_1725 : decode code 1725 = .ok (.iadd, 1) := by decide +kernel
theorem dL_law_1726 : decode code 1726 = .ok (.iaload, 1) := by decide +kernel
theorem dL_law_1727 : decode code 1727 = .ok (.invokevirtual 249, 3) := by decide +kernel
theorem dL_law_1730 : decode code 1730 = .ok (.pop, 1) := by decide +kernel
theorem dL_law_1731 : decode code 1731 = .ok (.goto 151, 3) := by decide +kernel
theorem dL_law_1734 : decode code 1734 = .ok (.aload_n 1, 1) := by decide +kernel
theorem dL_law_1735 : decode code 1735 = .ok (.aload_n 0, 1) := by decide +kernel
theorem dL_law_1736 : decode code 1736 = .ok (.iload_n 3, 1) := by decide +kernel
theorem dL_law_1737 : decode code 1737 = .ok (.iconst 1, 1) := by decide +kernel
theorem dL_law_1738 : decode code 1738 = .ok (.iadd, 1) := by decide +kernel
theorem dL_law_1739 : decode code 1739 = .ok (.iaload, 1) := by decide +kernel
theorem dL_law_1740 : decode code 1740 = .ok (.aload_n 0, 1) := by decide +kernel
theorem dL_law_1741 : decode code 1741 = .ok (.iload_n 3, 1) := by decide +kernel
theorem dL_law_1742 : decode code 1742 = .ok (.iconst 2, 1) := by decide +kernel
theorem dL_law_1743 : decode code 1743 = .ok (.iadd, 1) := by decide +kernel
theorem dL_law_1744 : decode code 1744 = .ok (.iaload, 1) := by decide +kernel
theorem dL_law_1745 : decode code 1745 = .ok (.invokevirtual 250, 3) := by decide +kernel
theorem dL_law_1748 : decode code 1748 = .ok (.pop, 1) := by decide +kernel
theorem dL_law_1749 : decode code 1749 = .ok (.aload_n 2, 1) := by decide +kernel
theorem dL_law_1750 : decode code 1750 = .ok (.aload_n 0, 1) := by decide +kernel
theorem dL_law_1751 : decode code 1751 = .ok (.iload_n 3, 1) := by decide +kernel
theorem dL_law_1752 : decode code 1752 = .ok (.iconst 1, 1) := by decide +kernel
theorem dL_law_1753 : decode code 1753 = .ok (.iadd, 1) := by decide +kernel
theorem dL_law_1754 : decode code 1754 = .ok (.iaload, 1) := by decide +kernel
theorem dL_law_1755 : decode code 1755 = .ok (.aload_n 0, 1) := by decide +kernel
theorem dL_law_1756 : decode code 1756 = .ok (.iload_n 3, 1) := by decide +kernel
theorem dL_law_1757 : decode code 1757 = .ok (.iconst 2, 1) := by decide +kernel
theorem dL_law_1758 : decode code 1758 = .ok (.iadd, 1) := by decide +kernel
theorem dL_law_1759 : decode code 1759 = .ok (.iaload, 1) := by decide +kernel
theorem dL_law_1760 : decode code 1760 = .ok (.invokevirtual 254, 3) := by decide +kernel
theorem dL_law_1763 : decode code 1763 = .ok (.pop, 1) := by decide +kernel
theorem dL_law_1764 : decode code 1764 = .ok (.goto 118, 3) := by decide +kernel
theorem dL_law_1767 : decode code 1767 = .ok (.aload_n 1, 1) := by decide +kernel
theorem dL_law_1768 : decode code 1768 = .ok (.aload_n 0, 1) := by decide +kernel
theorem dL_law_1769 : decode code 1769 = .ok (.iload_n 3, 1) := by decide +kernel
theorem dL_law_1770 : decode code 1770 = .ok (.iconst 1, 1) := by decide +kernel
theorem dL_law_1771 : decode code 1771 = .ok (.iadd, 1) := by decide +kernel
theorem dL_law_1772 : decode code 1772 = .ok (.iaload, 1) := by decide +kernel
theorem dL_law_1773 : decode code 1773 = .ok (.invokevirtual 255, 3) := by decide +kernel
theorem dL_law_1776 : decode code 1776 = .ok (.pop, 1) := by decide +kernel
theorem dL_law_1777 : decode code 1777 = .ok (.aload_n 2, 1) := by decide +kernel
theorem dL_law_1778 : decode code 1778 = .ok (.aload_n 0, 1) := by decide +kernel
theorem dL_law_1779 : decode code 1779 = .ok (.iload_n 3, 1) := by decide +kernel
theorem dL_law_1780 : decode code 1780 = .ok (.iconst 1, 1) := by decide +kernel
theorem dL_law_1781 : decode code 1781 = .ok (.iadd, 1) := by decide +kernel
theorem dL_law_1782 : decode code 1782 = .ok (.iaload, 1) := by decide +kernel
theorem dL_law_1783 : decode code 1783 = .ok (.invokevirtual 258, 3) := by decide +kernel
theorem dL_law_1786 : decode code 1786 = .ok (.pop, 1) := by decide +kernel
theorem dL_law_1787 : decode code 1787 = .ok (.goto 95, 3) := by decide +kernel
theorem dL_law_1790 : decode code 1790 = .ok (.aload_n 1, 1) := by decide +kernel
theorem dL_law_1791 : decode code 1791 = .ok (.aload_n 0, 1) := by decide +kernel
theorem dL_law_1792 : decode code 1792 = .ok (.iload_n 3, 1) := by decide +kernel
theorem dL_law_1793 : decode code 1793 = .ok (.iconst 1, 1) := by decide +kernel
theorem dL_law_1794 : decode code 1794 = .ok (.iadd, 1) := by decide +kernel
theorem dL_law_1795 : decode code 1795 = .ok (.iaload, 1) := by decide +kernel
theorem dL_law_1796 : decode code 1796 = .ok (.invokevirtual 259, 3) := by decide +kernel
theorem dL_law_1799 : decode code 1799 = .ok (.pop, 1) := by decide +kernel
theorem dL_law_1800 : decode code 1800 = .ok (.aload_n 2, 1) := by decide +kernel
theorem dL_law_1801 : decode code 1801 = .ok (.aload_n 0, 1) := by decide +kernel
theorem dL_law_1802 : decode code 1802 = .ok (.iload_n 3, 1) := by decide +kernel
theorem dL_law_1803 : decode code 1803 = .ok (.iconst 1, 1) := by decide +kernel
theorem dL_law_1804 : decode code 1804 = .ok (.iadd, 1) := by decide +kernel
theorem dL_law_1805 : decode code 1805 = .ok (.iaload, 1) := by decide +kernel
theorem dL_law_1806 : decode code 1806 = .ok (.invokevirtual 262, 3) := by decide +kernel
theorem dL_law_1809 : decode code 1809 = .ok (.pop, 1) := by decide +kernel
theorem dL_law_1810 : decode code 1810 = .ok (.goto 72, 3) := by decide +kernel
theorem dL_law_1813 : decode code 1813 = .ok (.aload_n 1, 1) := by decide +kernel
theorem dL_law_1814 : decode code 1814 = .ok (.aload_n 0, 1) := by decide +kernel
theorem dL_law_1815 : decode code 1815 = .ok (.iload_n 3, 1) := by decide +kernel
theorem dL_law_1816 : decode code 1816 = .ok (.iconst 1, 1) := by decide +kernel
theorem dL_law_1817 : decode code 1817 = .ok (.iadd, 1) := by decide +kernel
theorem dL_law_1818 : decode code 1818 = .ok (.iaload, 1) := by decide +kernel
theorem dL_law_1819 : decode code 1819 = .ok (.aload_n 0, 1) := by decide +kernel
theorem dL_law_1820 : decode code 1820 = .ok (.iload_n 3, 1) := by decide +kernel
theorem dL_law_1821 : decode code 1821 = .ok (.iconst 2, 1) := by decide +kernel
theorem dL_law_1822 : decode code 1822 = .ok (.iadd, 1) := by decide +kernel
theorem dL_law_1823 : decode code 1823 = .ok (.iaload, 1) := by decide +kernel
theorem dL_law_1824 : decode code 1824 = .ok (.aload_n 0, 1) := by decide +kernel
theorem dL_law_1825 : decode code 1825 = .ok (.iload_n 3, 1) := by decide +kernel
theorem dL_law_1826 : decode code 1826 = .ok (.iconst 3, 1) := by decide +kernel
theorem dL_law_1827 : decode code 1827 = .ok (.iadd, 1) := by decide +kernel
theorem dL_law_1828 : decode code 1828 = .ok (.iaload, 1) := by decide +kernel
theorem dL_law_1829 : decode code 1829 = .ok (.invokevirtual 263, 3) := by decide +kernel
theorem dL_law_1832 : decode code 1832 = .ok (.pop, 1) := by decide +kernel
theorem dL_law_1833 : decode code 1833 = .ok (.aload_n 2, 1) := by decide +kernel
theorem dL_law_1834 : decode code 1834 = .ok (.aload_n 0, 1) := by decide +kernel
theorem dL_law_1835 : decode code 1835 = .ok (.iload_n 3, 1) := by decide +kernel
theorem dL_law_1836 : decode code 1836 = .ok (.iconst 1, 1) := by decide +kernel
theorem dL_law_1837 : decode code 1837 = .ok (.iadd, 1) := by decide +kernel
theorem dL_law_1838 : decode code 1838 = .ok (.iaload, 1) := by decide +kernel
theorem dL_law_1839 : decode code 1839 = .ok (.aload_n 0, 1) := by decide +kernel
theorem dL_law_1840 : decode code 1840 = .ok (.iload_n 3, 1) := by decide +kernel
theorem dL_law_1841 : decode code 1841 = .ok (.iconst 2, 1) := by decide +kernel
theorem dL_law_1842 : decode code 1842 = .ok (.iadd, 1) := by decide +kernel
theorem dL_law_1843 : decode code 1843 = .ok (.iaload, 1) := by decide +kernel
theorem dL_law_1844 : decode code 1844 = .ok (.aload_n 0, 1) := by decide +kernel
theorem dL_law_1845 : decode code 1845 = .ok (.iload_n 3, 1) := by decide +kernel
theorem dL_law_1846 : decode code 1846 = .ok (.iconst 3, 1) := by decide +kernel
theorem dL_law_1847 : decode code 1847 = .ok (.iadd, 1) := by decide +kernel
theorem dL_law_1848 : decode code 1848 = .ok (.iaload, 1) := by decide +kernel
theorem dL_law_1849 : decode code 1849 = .ok (.invokevirtual 266, 3) := by decide +kernel
theorem dL_law_1852 : decode code 1852 = .ok (.pop, 1) := by decide +kernel
theorem dL_law_1853 : decode code 1853 = .ok (.goto 29, 3) := by decide +kernel
theorem dL_law_1856 : decode code 1856 = .ok (.aload_n 1, 1) := by decide +kernel
theorem dL_law_1857 : decode code 1857 = .ok (.invokevirtual 267, 3) := by decide +kernel
theorem dL_law_1860 : decode code 1860 = .ok (.pop, 1) := by decide +kernel
theorem dL_law_1861 : decode code 1861 = .ok (.aload_n 2, 1) := by decide +kernel
theorem dL_law_1862 : decode code 1862 = .ok (.invokevirtual 270, 3) := by decide +kernel
theorem dL_law_1865 : decode code 1865 = .ok (.pop, 1) := by decide +kernel
theorem dL_law_1866 : decode code 1866 = .ok (.goto 16, 3) := by decide +kernel
theorem dL_law_1869 : decode code 1869 = .ok (.aload_n 1, 1) := by decide +kernel
theorem dL_law_1870 : decode code 1870 = .ok (.invokevirtual 271, 3) := by decide +kernel
theorem dL_law_1873 : decode code 1873 = .ok (.pop, 1) := by decide +kernel
theorem dL_law_1874 : decode code 1874 = .ok (.aload_n 2, 1) := by decide +kernel
theorem dL_law_1875 : decode code 1875 = .ok (.invokevirtual 274, 3) := by decide +kernel
theorem dL_law_1878 : decode code 1878 = .ok (.pop, 1) := by decide +kernel
theorem dL_law_1879 : decode code 1879 = .ok (.goto 3, 3) := by decide +kernel
theorem dL_law_1882 : decode code 1882 = .ok (.iinc 3 6, 3) := by decide +kernel
theorem dL_law_1885 : decode code 1885 = .ok (.goto (-1867), 3) := by decide +kernel
theorem dL_law_1888 : decode code 1888 = .ok (.iconst 1, 1) := by decide +kernel
theorem dL_law_1889 : decode code 1889 = .ok (.ireturn, 1) := by decide +kernel
