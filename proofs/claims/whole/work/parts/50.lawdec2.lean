theorem d_Law_law_362 : decode code 362 = .ok (.iaload, 1) := by decide +kernel
theorem d_Law_law_363 : decode code 363 = .ok (.invokevirtual 47, 3) := by decide +kernel
theorem d_Law_law_366 : decode code 366 = .ok (.if_icmp .eq 161, 3) := by decide +kernel
theorem d_Law_law_369 : decode code 369 = .ok (.iconst 0, 1) := by decide +kernel
theorem d_Law_law_370 : decode code 370 = .ok (.ireturn, 1) := by decide +kernel
theorem d_Law_law_371 : decode code 371 = .ok (.aload_n 1, 1) := by decide +kernel
theorem d_Law_law_372 : decode code 372 = .ok (.aload_n 0, 1) := by decide +kernel
theorem d_Law_law_373 : decode code 373 = .ok (.iload_n 3, 1) := by decide +kernel
theorem d_Law_law_374 : decode code 374 = .ok (.iconst 1, 1) := by decide +kernel
theorem d_Law_law_375 : decode code 375 = .ok (.iadd, 1) := by decide +kernel
theorem d_Law_law_376 : decode code 376 = .ok (.iaload, 1) := by decide +kernel
theorem d_Law_law_377 : decode code 377 = .ok (.i2l, 1) := by decide +kernel
theorem d_Law_law_378 : decode code 378 = .ok (.bipush 32, 2) := by decide +kernel
theorem d_Law_law_380 : decode code 380 = .ok (.lshl, 1) := by decide +kernel
theorem d_Law_law_381 : decode code 381 = .ok (.aload_n 0, 1) := by decide +kernel
theorem d_Law_law_382 : decode code 382 = .ok (.iload_n 3, 1) := by decide +kernel
theorem d_Law_law_383 : decode code 383 = .ok (.iconst 2, 1) := by decide +kernel
theorem d_Law_law_384 : decode code 384 = .ok (.iadd, 1) := by decide +kernel
theorem d_Law_law_385 : decode code 385 = .ok (.iaload, 1) := by decide +kernel
theorem d_Law_law_386 : decode code 386 = .ok (.i2l, 1) := by decide +kernel
theorem d_Law_law_387 : decode code 387 = .ok (.ldc2_w 21, 3) := by decide +kernel
theorem d_Law_law_390 : decode code 390 = .ok (.land, 1) := by decide +kernel
theorem d_Law_law_391 : decode code 391 = .ok (.lor, 1) := by decide +kernel
theorem d_Law_law_392 : decode code 392 = .ok (.invokevirtual 48, 3) := by decide +kernel
theorem d_Law_law_395 : decode code 395 = .ok (.aload_n 2, 1) := by decide +kernel
theorem d_Law_law_396 : decode code 396 = .ok (.aload_n 0, 1) := by decide +kernel
theorem d_Law_law_397 : decode code 397 = .ok (.iload_n 3, 1) := by decide +kernel
theorem d_Law_law_398 : decode code 398 = .ok (.iconst 1, 1) := by decide +kernel
theorem d_Law_law_399 : decode code 399 = .ok (.iadd, 1) := by decide +kernel
theorem d_Law_law_400 : decode code 400 = .ok (.iaload, 1) := by decide +kernel
theorem d_Law_law_401 : decode code 401 = .ok (.i2l, 1) := by decide +kernel
theorem d_Law_law_402 : decode code 402 = .ok (.bipush 32, 2) := by decide +kernel
theorem d_Law_law_404 : decode code 404 = .ok (.lshl, 1) := by decide +kernel
theorem d_Law_law_405 : decode code 405 = .ok (.aload_n 0, 1) := by decide +kernel
theorem d_Law_law_406 : decode code 406 = .ok (.iload_n 3, 1) := by decide +kernel
theorem d_Law_law_407 : decode code 407 = .ok (.iconst 2, 1) := by decide +kernel
theorem d_Law_law_408 : decode code 408 = .ok (.iadd, 1) := by decide +kernel
theorem d_Law_law_409 : decode code 409 = .ok (.iaload, 1) := by decide +kernel
theorem d_Law_law_410 : decode code 410 = .ok (.i2l, 1) := by decide +kernel
theorem d_Law_law_411 : decode code 411 = .ok (.ldc2_w 21, 3) := by decide +kernel
theorem d_Law_law_414 : decode code 414 = .ok (.land, 1) := by decide +kernel
theorem d_Law_law_415 : decode code 415 = .ok (.lor, 1) := by decide +kernel
theorem d_Law_law_416 : decode code 416 = .ok (.invokevirtual 52, 3) := by decide +kernel
theorem d_Law_law_419 : decode code 419 = .ok (.if_icmp .eq 108, 3) := by decide +kernel
theorem d_Law_law_422 : decode code 422 = .ok (.iconst 0, 1) := by decide +kernel
theorem d_Law_law_423 : decode code 423 = .ok (.ireturn, 1) := by decide +kernel
theorem d_Law_law_424 : decode code 424 = .ok (.aload_n 1, 1) := by decide +kernel
theorem d_Law_law_425 : decode code 425 = .ok (.aload_n 0, 1) := by decide +kernel
theorem d_Law_law_426 : decode code 426 = .ok (.iload_n 3, 1) := by decide +kernel
theorem d_Law_law_427 : decode code 427 = .ok (.iconst 1, 1) := by decide +kernel
theorem d_Law_law_428 : decode code 428 = .ok (.iadd, 1) := by decide +kernel
theorem d_Law_law_429 : decode code 429 = .ok (.iaload, 1) := by decide +kernel
theorem d_Law_law_430 : decode code 430 = .ok (.invokevirtual 53, 3) := by decide +kernel
theorem d_Law_law_433 : decode code 433 = .ok (.aload_n 2, 1) := by decide +kernel
theorem d_Law_law_434 : decode code 434 = .ok (.aload_n 0, 1) := by decide +kernel
theorem d_Law_law_435 : decode code 435 = .ok (.iload_n 3, 1) := by decide +kernel
theorem d_Law_law_436 : decode code 436 = .ok (.iconst 1, 1) := by decide +kernel
theorem d_Law_law_437 : decode code 437 = .ok (.iadd, 1) := by decide +kernel
theorem d_Law_law_438 : decode code 438 = .ok (.iaload, 1) := by decide +kernel
theorem d_Law_law_439 : decode code 439 = .ok (.invokevirtual 56, 3) := by decide +kernel
theorem d_Law_law_442 : decode code 442 = .ok (.if_icmp .eq 85, 3) := by decide +kernel
theorem d_Law_law_445 : decode code 445 = .ok (.iconst 0, 1) := by decide +kernel
theorem d_Law_law_446 : decode code 446 = .ok (.ireturn, 1) := by decide +kernel
theorem d_Law_law_447 : decode code 447 = .ok (.aload_n 1, 1) := by decide +kernel
theorem d_Law_law_448 : decode code 448 = .ok (.aload_n 0, 1) := by decide +kernel
theorem d_Law_law_449 : decode code 449 = .ok (.iload_n 3, 1) := by decide +kernel
theorem d_Law_law_450 : decode code 450 = .ok (.iconst 1, 1) := by decide +kernel
theorem d_Law_law_451 : decode code 451 = .ok (.iadd, 1) := by decide +kernel
theorem d_Law_law_452 : decode code 452 = .ok (.iaload, 1) := by decide +kernel
theorem d_Law_law_453 : decode code 453 = .ok (.invokevirtual 57, 3) := by decide +kernel
theorem d_Law_law_456 : decode code 456 = .ok (.aload_n 2, 1) := by decide +kernel
theorem d_Law_law_457 : decode code 457 = .ok (.aload_n 0, 1) := by decide +kernel
theorem d_Law_law_458 : decode code 458 = .ok (.iload_n 3, 1) := by decide +kernel
theorem d_Law_law_459 : decode code 459 = .ok (.iconst 1, 1) := by decide +kernel
theorem d_Law_law_460 : decode code 460 = .ok (.iadd, 1) := by decide +kernel
theorem d_Law_law_461 : decode code 461 = .ok (.iaload, 1) := by decide +kernel
theorem d_Law_law_462 : decode code 462 = .ok (.invokevirtual 60, 3) := by decide +kernel
theorem d_Law_law_465 : decode code 465 = .ok (.if_icmp .eq 62, 3) := by decide +kernel
theorem d_Law_law_468 : decode code 468 = .ok (.iconst 0, 1) := by decide +kernel
theorem d_Law_law_469 : decode code 469 = .ok (.ireturn, 1) := by decide +kernel
theorem d_Law_law_470 : decode code 470 = .ok (.aload_n 1, 1) := by decide +kernel
theorem d_Law_law_471 : decode code 471 = .ok (.aload_n 0, 1) := by decide +kernel
theorem d_Law_law_472 : decode code 472 = .ok (.iload_n 3, 1) := by decide +kernel
theorem d_Law_law_473 : decode code 473 = .ok (.iconst 1, 1) := by decide +kernel
theorem d_Law_law_474 : decode code 474 = .ok (.iadd, 1) := by decide +kernel
theorem d_Law_law_475 : decode code 475 = .ok (.iaload, 1) := by decide +kernel
theorem d_Law_law_476 : decode code 476 = .ok (.aload_n 0, 1) := by decide +kernel
theorem d_Law_law_477 : decode code 477 = .ok (.iload_n 3, 1) := by decide +kernel
theorem d_Law_law_478 : decode code 478 = .ok (.iconst 2, 1) := by decide +kernel
theorem d_Law_law_479 : decode code 479 = .ok (.iadd, 1) := by decide +kernel
theorem d_Law_law_480 : decode code 480 = .ok (.iaload, 1) := by decide +kernel
theorem d_Law_law_481 : decode code 481 = .ok (.aload_n 0, 1) := by decide +kernel
theorem d_Law_law_482 : decode code 482 = .ok (.iload_n 3, 1) := by decide +kernel
theorem d_Law_law_483 : decode code 483 = .ok (.iconst 3, 1) := by decide +kernel
theorem d_Law_law_484 : decode code 484 = .ok (.iadd, 1) := by decide +kernel
theorem d_Law_law_485 : decode code 485 = .ok (.iaload, 1) := by decide +kernel
theorem d_Law_law_486 : decode code 486 = .ok (.invokevirtual 61, 3) := by decide +kernel
theorem d_Law_law_489 : decode code 489 = .ok (.aload_n 2, 1) := by decide +kernel
theorem d_Law_law_490 : decode code 490 = .ok (.aload_n 0, 1) := by decide +kernel
theorem d_Law_law_491 : decode code 491 = .ok (.iload_n 3, 1) := by decide +kernel
theorem d_Law_law_492 : decode code 492 = .ok (.iconst 1, 1) := by decide +kernel
theorem d_Law_law_493 : decode code 493 = .ok (.iadd, 1) := by decide +kernel
theorem d_Law_law_494 : decode code 494 = .ok (.iaload, 1) := by decide +kernel
theorem d_Law_law_495 : decode code 495 = .ok (.aload_n 0, 1) := by decide +kernel
theorem d_Law_law_496 : decode code 496 = .ok (.iload_n 3, 1) := by decide +kernel
theorem d_Law_law_497 : decode code 497 = .ok (.iconst 2, 1) := by decide +kernel
theorem d_Law_law_498 : decode code 498 = .ok (.iadd, 1) := by decide +kernel
theorem d_Law_law_499 : decode code 499 = .ok (.iaload, 1) := by decide +kernel
theorem d_Law_law_500 : decode code 500 = .ok (.aload_n 0, 1) := by decide +kernel
theorem d_Law_law_501 : decode code 501 = .ok (.iload_n 3, 1) := by decide +kernel
theorem d_Law_law_502 : decode code 502 = .ok (.iconst 3, 1) := by decide +kernel
theorem d_Law_law_503 : decode code 503 = .ok (.iadd, 1) := by decide +kernel
theorem d_Law_law_504 : decode code 504 = .ok (.iaload, 1) := by decide +kernel
theorem d_Law_law_505 : decode code 505 = .ok (.invokevirtual 65, 3) := by decide +kernel
theorem d_Law_law_508 : decode code 508 = .ok (.lcmp, 1) := by decide +kernel
theorem d_Law_law_509 : decode code 509 = .ok (.ifCond .eq 18, 3) := by decide +kernel
theorem d_Law_law_512 : decode code 512 = .ok (.iconst 0, 1) := by decide +kernel
theorem d_Law_law_513 : decode code 513 = .ok (.ireturn, 1) := by decide +kernel
theorem d_Law_law_514 : decode code 514 = .ok (.aload_n 1, 1) := by decide +kernel
theorem d_Law_law_515 : decode code 515 = .ok (.invokevirtual 66, 3) := by decide +kernel
theorem d_Law_law_518 : decode code 518 = .ok (.aload_n 2, 1) := by decide +kernel
theorem d_Law_law_519 : decode code 519 = .ok (.invokevirtual 70, 3) := by decide +kernel
theorem d_Law_law_522 : decode code 522 = .ok (.if_icmp .eq 5, 3) := by decide +kernel
theorem d_Law_law_525 : decode code 525 = .ok (.iconst 0, 1) := by decide +kernel
theorem d_Law_law_526 : decode code 526 = .ok (.ireturn, 1) := by decide +kernel
theorem d_Law_law_527 : decode code 527 = .ok (.iinc 3 6, 3) := by decide +kernel
theorem d_Law_law_530 : decode code 530 = .ok (.goto (-502), 3) := by decide +kernel
theorem d_Law_law_533 : decode code 533 = .ok (.iconst 1, 1) := by decide +kernel
theorem d_Law_law_534 : decode code 534 = .ok (.ireturn, 1) := by decide +kernel
