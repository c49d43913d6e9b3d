theorem d_LAW_371 : decode code 371 = .ok (.aload_n 2, 1) := by decide +kernel
theorem d_LAW_372 : decode code 372 = .ok (.aload_n 0, 1) := by decide +kernel
theorem d_LAW_373 : decode code 373 = .ok (.iload 4, 2) := by decide +kernel
theorem d_LAW_375 : decode code 375 = .ok (.iconst 1, 1) := by decide +kernel
theorem d_LAW_376 : decode code 376 = .ok (.iadd, 1) := by decide +kernel
theorem d_LAW_377 : decode code 377 = .ok (.iaload, 1) := by decide +kernel
theorem d_LAW_378 : decode code 378 = .ok (.aload_n 0, 1) := by decide +kernel
theorem d_LAW_379 : decode code 379 = .ok (.iload 4, 2) := by decide +kernel
theorem d_LAW_381 : decode code 381 = .ok (.iconst 2, 1) := by decide +kernel
theorem d_LAW_382 : decode code 382 = .ok (.iadd, 1) := by decide +kernel
theorem d_LAW_383 : decode code 383 = .ok (.iaload, 1) := by decide +kernel
theorem d_LAW_384 : decode code 384 = .ok (.ifCond .eq 7, 3) := by decide +kernel
theorem d_LAW_387 : decode code 387 = .ok (.iconst 1, 1) := by decide +kernel
theorem d_LAW_388 : decode code 388 = .ok (.goto 4, 3) := by decide +kernel
theorem d_LAW_391 : decode code 391 = .ok (.iconst 0, 1) := by decide +kernel
theorem d_LAW_392 : decode code 392 = .ok (.invokevirtual 73, 3) := by decide +kernel
theorem d_LAW_395 : decode code 395 = .ok (.istore 6, 2) := by decide +kernel
theorem d_LAW_397 : decode code 397 = .ok (.aload_n 2, 1) := by decide +kernel
theorem d_LAW_398 : decode code 398 = .ok (.invokevirtual 55, 3) := by decide +kernel
theorem d_LAW_401 : decode code 401 = .ok (.iload 5, 2) := by decide +kernel
theorem d_LAW_403 : decode code 403 = .ok (.if_icmp .eq 5, 3) := by decide +kernel
theorem d_LAW_406 : decode code 406 = .ok (.iconst 0, 1) := by decide +kernel
theorem d_LAW_407 : decode code 407 = .ok (.ireturn, 1) := by decide +kernel
theorem d_LAW_408 : decode code 408 = .ok (.iload 5, 2) := by decide +kernel
theorem d_LAW_410 : decode code 410 = .ok (.ifCond .ne 22, 3) := by decide +kernel
theorem d_LAW_413 : decode code 413 = .ok (.aload_n 3, 1) := by decide +kernel
theorem d_LAW_414 : decode code 414 = .ok (.iconst 0, 1) := by decide +kernel
theorem d_LAW_415 : decode code 415 = .ok (.laload, 1) := by decide +kernel
theorem d_LAW_416 : decode code 416 = .ok (.iload 6, 2) := by decide +kernel
theorem d_LAW_418 : decode code 418 = .ok (.ifCond .eq 7, 3) := by decide +kernel
theorem d_LAW_421 : decode code 421 = .ok (.lconst 1, 1) := by decide +kernel
theorem d_LAW_422 : decode code 422 = .ok (.goto 4, 3) := by decide +kernel
theorem d_LAW_425 : decode code 425 = .ok (.lconst 0, 1) := by decide +kernel
theorem d_LAW_426 : decode code 426 = .ok (.lcmp, 1) := by decide +kernel
theorem d_LAW_427 : decode code 427 = .ok (.ifCond .eq 5, 3) := by decide +kernel
theorem d_LAW_430 : decode code 430 = .ok (.iconst 0, 1) := by decide +kernel
theorem d_LAW_431 : decode code 431 = .ok (.ireturn, 1) := by decide +kernel
theorem d_LAW_432 : decode code 432 = .ok (.goto 263, 3) := by decide +kernel
theorem d_LAW_435 : decode code 435 = .ok (.aload_n 1, 1) := by decide +kernel
theorem d_LAW_436 : decode code 436 = .ok (.aload_n 0, 1) := by decide +kernel
theorem d_LAW_437 : decode code 437 = .ok (.iload 4, 2) := by decide +kernel
theorem d_LAW_439 : decode code 439 = .ok (.iconst 1, 1) := by decide +kernel
theorem d_LAW_440 : decode code 440 = .ok (.iadd, 1) := by decide +kernel
theorem d_LAW_441 : decode code 441 = .ok (.iaload, 1) := by decide +kernel
theorem d_LAW_442 : decode code 442 = .ok (.aload_n 3, 1) := by decide +kernel
theorem d_LAW_443 : decode code 443 = .ok (.invokestatic 74, 3) := by decide +kernel
theorem d_LAW_446 : decode code 446 = .ok (.istore 5, 2) := by decide +kernel
theorem d_LAW_448 : decode code 448 = .ok (.aload_n 2, 1) := by decide +kernel
theorem d_LAW_449 : decode code 449 = .ok (.aload_n 0, 1) := by decide +kernel
theorem d_LAW_450 : decode code 450 = .ok (.iload 4, 2) := by decide +kernel
theorem d_LAW_452 : decode code 452 = .ok (.iconst 1, 1) := by decide +kernel
theorem d_LAW_453 : decode code 453 = .ok (.iadd, 1) := by decide +kernel
theorem d_LAW_454 : decode code 454 = .ok (.iaload, 1) := by decide +kernel
theorem d_LAW_455 : decode code 455 = .ok (.invokevirtual 76, 3) := by decide +kernel
theorem d_LAW_458 : decode code 458 = .ok (.istore 6, 2) := by decide +kernel
theorem d_LAW_460 : decode code 460 = .ok (.aload_n 2, 1) := by decide +kernel
theorem d_LAW_461 : decode code 461 = .ok (.invokevirtual 55, 3) := by decide +kernel
theorem d_LAW_464 : decode code 464 = .ok (.iload 5, 2) := by decide +kernel
theorem d_LAW_466 : decode code 466 = .ok (.if_icmp .eq 5, 3) := by decide +kernel
theorem d_LAW_469 : decode code 469 = .ok (.iconst 0, 1) := by decide +kernel
theorem d_LAW_470 : decode code 470 = .ok (.ireturn, 1) := by decide +kernel
theorem d_LAW_471 : decode code 471 = .ok (.iload 5, 2) := by decide +kernel
theorem d_LAW_473 : decode code 473 = .ok (.ifCond .ne 15, 3) := by decide +kernel
theorem d_LAW_476 : decode code 476 = .ok (.aload_n 3, 1) := by decide +kernel
theorem d_LAW_477 : decode code 477 = .ok (.iconst 0, 1) := by decide +kernel
theorem d_LAW_478 : decode code 478 = .ok (.laload, 1) := by decide +kernel
theorem d_LAW_479 : decode code 479 = .ok (.iload 6, 2) := by decide +kernel
theorem d_LAW_481 : decode code 481 = .ok (.i2l, 1) := by decide +kernel
theorem d_LAW_482 : decode code 482 = .ok (.lcmp, 1) := by decide +kernel
theorem d_LAW_483 : decode code 483 = .ok (.ifCond .eq 5, 3) := by decide +kernel
theorem d_LAW_486 : decode code 486 = .ok (.iconst 0, 1) := by decide +kernel
theorem d_LAW_487 : decode code 487 = .ok (.ireturn, 1) := by decide +kernel
theorem d_LAW_488 : decode code 488 = .ok (.goto 207, 3) := by decide +kernel
theorem d_LAW_491 : decode code 491 = .ok (.aload_n 1, 1) := by decide +kernel
theorem d_LAW_492 : decode code 492 = .ok (.aload_n 0, 1) := by decide +kernel
theorem d_LAW_493 : decode code 493 = .ok (.iload 4, 2) := by decide +kernel
theorem d_LAW_495 : decode code 495 = .ok (.iconst 1, 1) := by decide +kernel
theorem d_LAW_496 : decode code 496 = .ok (.iadd, 1) := by decide +kernel
theorem d_LAW_497 : decode code 497 = .ok (.iaload, 1) := by decide +kernel
theorem d_LAW_498 : decode code 498 = .ok (.aload_n 0, 1) := by decide +kernel
theorem d_LAW_499 : decode code 499 = .ok (.iload 4, 2) := by decide +kernel
theorem d_LAW_501 : decode code 501 = .ok (.iconst 2, 1) := by decide +kernel
theorem d_LAW_502 : decode code 502 = .ok (.iadd, 1) := by decide +kernel
theorem d_LAW_503 : decode code 503 = .ok (.iaload, 1) := by decide +kernel
theorem d_LAW_504 : decode code 504 = .ok (.aload_n 3, 1) := by decide +kernel
theorem d_LAW_505 : decode code 505 = .ok (.invokestatic 77, 3) := by decide +kernel
theorem d_LAW_508 : decode code 508 = .ok (.istore 5, 2) := by decide +kernel
theorem d_LAW_510 : decode code 510 = .ok (.aload_n 2, 1) := by decide +kernel
theorem d_LAW_511 : decode code 511 = .ok (.aload_n 0, 1) := by decide +kernel
theorem d_LAW_512 : decode code 512 = .ok (.iload 4, 2) := by decide +kernel
theorem d_LAW_514 : decode code 514 = .ok (.iconst 1, 1) := by decide +kernel
theorem d_LAW_515 : decode code 515 = .ok (.iadd, 1) := by decide +kernel
theorem d_LAW_516 : decode code 516 = .ok (.iaload, 1) := by decide +kernel
theorem d_LAW_517 : decode code 517 = .ok (.aload_n 0, 1) := by decide +kernel
theorem d_LAW_518 : decode code 518 = .ok (.iload 4, 2) := by decide +kernel
theorem d_LAW_520 : decode code 520 = .ok (.iconst 2, 1) := by decide +kernel
theorem d_LAW_521 : decode code 521 = .ok (.iadd, 1) := by decide +kernel
theorem d_LAW_522 : decode code 522 = .ok (.iaload, 1) := by decide +kernel
theorem d_LAW_523 : decode code 523 = .ok (.invokevirtual 79, 3) := by decide +kernel
theorem d_LAW_526 : decode code 526 = .ok (.istore 6, 2) := by decide +kernel
theorem d_LAW_528 : decode code 528 = .ok (.aload_n 2, 1) := by decide +kernel
theorem d_LAW_529 : decode code 529 = .ok (.invokevirtual 55, 3) := by decide +kernel
theorem d_LAW_532 : decode code 532 = .ok (.iload 5, 2) := by decide +kernel
theorem d_LAW_534 : decode code 534 = .ok (.if_icmp .eq 5, 3) := by decide +kernel
theorem d_LAW_537 : decode code 537 = .ok (.iconst 0, 1) := by decide +kernel
