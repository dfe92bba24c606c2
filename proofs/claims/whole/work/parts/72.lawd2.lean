/-! The law's own instructions, 220 on -/
theorem d_W_400 : decode code 400 = .ok (.iadd, 1) := by decide +kernel
theorem d_W_401 : decode code 401 = .ok (.iaload, 1) := by decide +kernel
theorem d_W_402 : decode code 402 = .ok (.aload_n 0, 1) := by decide +kernel
theorem d_W_403 : decode code 403 = .ok (.iload 4, 2) := by decide +kernel
theorem d_W_405 : decode code 405 = .ok (.iconst 2, 1) := by decide +kernel
theorem d_W_406 : decode code 406 = .ok (.iadd, 1) := by decide +kernel
theorem d_W_407 : decode code 407 = .ok (.iaload, 1) := by decide +kernel
theorem d_W_408 : decode code 408 = .ok (.invokevirtual 89, 3) := by decide +kernel
theorem d_W_411 : decode code 411 = .ok (.istore 6, 2) := by decide +kernel
theorem d_W_413 : decode code 413 = .ok (.aload_n 2, 1) := by decide +kernel
theorem d_W_414 : decode code 414 = .ok (.invokevirtual 72, 3) := by decide +kernel
theorem d_W_417 : decode code 417 = .ok (.iload 5, 2) := by decide +kernel
theorem d_W_419 : decode code 419 = .ok (.if_icmp .eq 5, 3) := by decide +kernel
theorem d_W_422 : decode code 422 = .ok (.iconst 0, 1) := by decide +kernel
theorem d_W_423 : decode code 423 = .ok (.ireturn, 1) := by decide +kernel
theorem d_W_424 : decode code 424 = .ok (.iload 5, 2) := by decide +kernel
theorem d_W_426 : decode code 426 = .ok (.ifCond .ne 15, 3) := by decide +kernel
theorem d_W_429 : decode code 429 = .ok (.aload_n 3, 1) := by decide +kernel
theorem d_W_430 : decode code 430 = .ok (.iconst 0, 1) := by decide +kernel
theorem d_W_431 : decode code 431 = .ok (.laload, 1) := by decide +kernel
theorem d_W_432 : decode code 432 = .ok (.iload 6, 2) := by decide +kernel
theorem d_W_434 : decode code 434 = .ok (.i2l, 1) := by decide +kernel
theorem d_W_435 : decode code 435 = .ok (.lcmp, 1) := by decide +kernel
theorem d_W_436 : decode code 436 = .ok (.ifCond .eq 5, 3) := by decide +kernel
theorem d_W_439 : decode code 439 = .ok (.iconst 0, 1) := by decide +kernel
theorem d_W_440 : decode code 440 = .ok (.ireturn, 1) := by decide +kernel
theorem d_W_441 : decode code 441 = .ok (.goto 664, 3) := by decide +kernel
theorem d_W_444 : decode code 444 = .ok (.aload_n 1, 1) := by decide +kernel
theorem d_W_445 : decode code 445 = .ok (.aload_n 0, 1) := by decide +kernel
theorem d_W_446 : decode code 446 = .ok (.iload 4, 2) := by decide +kernel
theorem d_W_448 : decode code 448 = .ok (.iconst 1, 1) := by decide +kernel
theorem d_W_449 : decode code 449 = .ok (.iadd, 1) := by decide +kernel
theorem d_W_450 : decode code 450 = .ok (.iaload, 1) := by decide +kernel
theorem d_W_451 : decode code 451 = .ok (.aload_n 0, 1) := by decide +kernel
theorem d_W_452 : decode code 452 = .ok (.iload 4, 2) := by decide +kernel
theorem d_W_454 : decode code 454 = .ok (.iconst 2, 1) := by decide +kernel
theorem d_W_455 : decode code 455 = .ok (.iadd, 1) := by decide +kernel
theorem d_W_456 : decode code 456 = .ok (.iaload, 1) := by decide +kernel
theorem d_W_457 : decode code 457 = .ok (.aload_n 3, 1) := by decide +kernel
theorem d_W_458 : decode code 458 = .ok (.invokestatic 90, 3) := by decide +kernel
theorem d_W_461 : decode code 461 = .ok (.istore 5, 2) := by decide +kernel
theorem d_W_463 : decode code 463 = .ok (.aload_n 2, 1) := by decide +kernel
theorem d_W_464 : decode code 464 = .ok (.aload_n 0, 1) := by decide +kernel
theorem d_W_465 : decode code 465 = .ok (.iload 4, 2) := by decide +kernel
theorem d_W_467 : decode code 467 = .ok (.iconst 1, 1) := by decide +kernel
theorem d_W_468 : decode code 468 = .ok (.iadd, 1) := by decide +kernel
theorem d_W_469 : decode code 469 = .ok (.iaload, 1) := by decide +kernel
theorem d_W_470 : decode code 470 = .ok (.aload_n 0, 1) := by decide +kernel
theorem d_W_471 : decode code 471 = .ok (.iload 4, 2) := by decide +kernel
theorem d_W_473 : decode code 473 = .ok (.iconst 2, 1) := by decide +kernel
theorem d_W_474 : decode code 474 = .ok (.iadd, 1) := by decide +kernel
theorem d_W_475 : decode code 475 = .ok (.iaload, 1) := by decide +kernel
theorem d_W_476 : decode code 476 = .ok (.invokevirtual 92, 3) := by decide +kernel
theorem d_W_479 : decode code 479 = .ok (.istore 6, 2) := by decide +kernel
theorem d_W_481 : decode code 481 = .ok (.aload_n 2, 1) := by decide +kernel
theorem d_W_482 : decode code 482 = .ok (.invokevirtual 72, 3) := by decide +kernel
theorem d_W_485 : decode code 485 = .ok (.iload 5, 2) := by decide +kernel
theorem d_W_487 : decode code 487 = .ok (.if_icmp .eq 5, 3) := by decide +kernel
theorem d_W_490 : decode code 490 = .ok (.iconst 0, 1) := by decide +kernel
theorem d_W_491 : decode code 491 = .ok (.ireturn, 1) := by decide +kernel
theorem d_W_492 : decode code 492 = .ok (.iload 5, 2) := by decide +kernel
theorem d_W_494 : decode code 494 = .ok (.ifCond .ne 15, 3) := by decide +kernel
theorem d_W_497 : decode code 497 = .ok (.aload_n 3, 1) := by decide +kernel
theorem d_W_498 : decode code 498 = .ok (.iconst 0, 1) := by decide +kernel
theorem d_W_499 : decode code 499 = .ok (.laload, 1) := by decide +kernel
theorem d_W_500 : decode code 500 = .ok (.iload 6, 2) := by decide +kernel
theorem d_W_502 : decode code 502 = .ok (.i2l, 1) := by decide +kernel
theorem d_W_503 : decode code 503 = .ok (.lcmp, 1) := by decide +kernel
theorem d_W_504 : decode code 504 = .ok (.ifCond .eq 5, 3) := by decide +kernel
theorem d_W_507 : decode code 507 = .ok (.iconst 0, 1) := by decide +kernel
theorem d_W_508 : decode code 508 = .ok (.ireturn, 1) := by decide +kernel
theorem d_W_509 : decode code 509 = .ok (.goto 596, 3) := by decide +kernel
theorem d_W_512 : decode code 512 = .ok (.aload_n 1, 1) := by decide +kernel
theorem d_W_513 : decode code 513 = .ok (.aload_n 0, 1) := by decide +kernel
theorem d_W_514 : decode code 514 = .ok (.iload 4, 2) := by decide +kernel
theorem d_W_516 : decode code 516 = .ok (.iconst 1, 1) := by decide +kernel
theorem d_W_517 : decode code 517 = .ok (.iadd, 1) := by decide +kernel
theorem d_W_518 : decode code 518 = .ok (.iaload, 1) := by decide +kernel
theorem d_W_519 : decode code 519 = .ok (.aload_n 0, 1) := by decide +kernel
theorem d_W_520 : decode code 520 = .ok (.iload 4, 2) := by decide +kernel
theorem d_W_522 : decode code 522 = .ok (.iconst 2, 1) := by decide +kernel
theorem d_W_523 : decode code 523 = .ok (.iadd, 1) := by decide +kernel
theorem d_W_524 : decode code 524 = .ok (.iaload, 1) := by decide +kernel
theorem d_W_525 : decode code 525 = .ok (.aload_n 3, 1) := by decide +kernel
theorem d_W_526 : decode code 526 = .ok (.invokestatic 93, 3) := by decide +kernel
theorem d_W_529 : decode code 529 = .ok (.istore 5, 2) := by decide +kernel
theorem d_W_531 : decode code 531 = .ok (.aload_n 2, 1) := by decide +kernel
theorem d_W_532 : decode code 532 = .ok (.aload_n 0, 1) := by decide +kernel
theorem d_W_533 : decode code 533 = .ok (.iload 4, 2) := by decide +kernel
theorem d_W_535 : decode code 535 = .ok (.iconst 1, 1) := by decide +kernel
theorem d_W_536 : decode code 536 = .ok (.iadd, 1) := by decide +kernel
theorem d_W_537 : decode code 537 = .ok (.iaload, 1) := by decide +kernel
theorem d_W_538 : decode code 538 = .ok (.aload_n 0, 1) := by decide +kernel
theorem d_W_539 : decode code 539 = .ok (.iload 4, 2) := by decide +kernel
theorem d_W_541 : decode code 541 = .ok (.iconst 2, 1) := by decide +kernel
theorem d_W_542 : decode code 542 = .ok (.iadd, 1) := by decide +kernel
theorem d_W_543 : decode code 543 = .ok (.iaload, 1) := by decide +kernel
theorem d_W_544 : decode code 544 = .ok (.invokevirtual 95, 3) := by decide +kernel
theorem d_W_547 : decode code 547 = .ok (.istore 6, 2) := by decide +kernel
theorem d_W_549 : decode code 549 = .ok (.aload_n 2, 1) := by decide +kernel
theorem d_W_550 : decode code 550 = .ok (.invokevirtual 72, 3) := by decide +kernel
theorem d_W_553 : decode code 553 = .ok (.iload 5, 2) := by decide +kernel
theorem d_W_555 : decode code 555 = .ok (.if_icmp .eq 5, 3) := by decide +kernel
theorem d_W_558 : decode code 558 = .ok (.iconst 0, 1) := by decide +kernel
theorem d_W_559 : decode code 559 = .ok (.ireturn, 1) := by decide +kernel
theorem d_W_560 : decode code 560 = .ok (.iload 5, 2) := by decide +kernel
theorem d_W_562 : decode code 562 = .ok (.ifCond .ne 15, 3) := by decide +kernel
theorem d_W_565 : decode code 565 = .ok (.aload_n 3, 1) := by decide +kernel
theorem d_W_566 : decode code 566 = .ok (.iconst 0, 1) := by decide +kernel
theorem d_W_567 : decode code 567 = .ok (.laload, 1) := by decide +kernel
