theorem dL_law_443 : decode cL_law 443 = .ok (.laload, 1) := by decide +kernel
theorem dL_law_444 : decode cL_law 444 = .ok (.iload 6, 2) := by decide +kernel
theorem dL_law_446 : decode cL_law 446 = .ok (.ifCond .eq 7, 3) := by decide +kernel
theorem dL_law_449 : decode cL_law 449 = .ok (.lconst 1, 1) := by decide +kernel
theorem dL_law_450 : decode cL_law 450 = .ok (.goto 4, 3) := by decide +kernel
theorem dL_law_453 : decode cL_law 453 = .ok (.lconst 0, 1) := by decide +kernel
theorem dL_law_454 : decode cL_law 454 = .ok (.lcmp, 1) := by decide +kernel
theorem dL_law_455 : decode cL_law 455 = .ok (.ifCond .eq 5, 3) := by decide +kernel
theorem dL_law_458 : decode cL_law 458 = .ok (.iconst 0, 1) := by decide +kernel
theorem dL_law_459 : decode cL_law 459 = .ok (.ireturn, 1) := by decide +kernel
theorem dL_law_460 : decode cL_law 460 = .ok (.goto 1023, 3) := by decide +kernel
theorem dL_law_463 : decode cL_law 463 = .ok (.aload_n 1, 1) := by decide +kernel
theorem dL_law_464 : decode cL_law 464 = .ok (.aload_n 0, 1) := by decide +kernel
theorem dL_law_465 : decode cL_law 465 = .ok (.iload 4, 2) := by decide +kernel
theorem dL_law_467 : decode cL_law 467 = .ok (.iconst 1, 1) := by decide +kernel
theorem dL_law_468 : decode cL_law 468 = .ok (.iadd, 1) := by decide +kernel
theorem dL_law_469 : decode cL_law 469 = .ok (.iaload, 1) := by decide +kernel
theorem dL_law_470 : decode cL_law 470 = .ok (.aload_n 0, 1) := by decide +kernel
theorem dL_law_471 : decode cL_law 471 = .ok (.iload 4, 2) := by decide +kernel
theorem dL_law_473 : decode cL_law 473 = .ok (.iconst 2, 1) := by decide +kernel
theorem dL_law_474 : decode cL_law 474 = .ok (.iadd, 1) := by decide +kernel
theorem dL_law_475 : decode cL_law 475 = .ok (.iaload, 1) := by decide +kernel
theorem dL_law_476 : decode cL_law 476 = .ok (.aload_n 3, 1) := by decide +kernel
theorem dL_law_477 : decode cL_law 477 = .ok (.invokestatic 102, 3) := by decide +kernel
theorem dL_law_480 : decode cL_law 480 = .ok (.istore 5, 2) := by decide +kernel
theorem dL_law_482 : decode cL_law 482 = .ok (.aload_n 2, 1) := by decide +kernel
theorem dL_law_483 : decode cL_law 483 = .ok (.aload_n 0, 1) := by decide +kernel
theorem dL_law_484 : decode cL_law 484 = .ok (.iload 4, 2) := by decide +kernel
theorem dL_law_486 : decode cL_law 486 = .ok (.iconst 1, 1) := by decide +kernel
theorem dL_law_487 : decode cL_law 487 = .ok (.iadd, 1) := by decide +kernel
theorem dL_law_488 : decode cL_law 488 = .ok (.iaload, 1) := by decide +kernel
theorem dL_law_489 : decode cL_law 489 = .ok (.aload_n 0, 1) := by decide +kernel
theorem dL_law_490 : decode cL_law 490 = .ok (.iload 4, 2) := by decide +kernel
theorem dL_law_492 : decode cL_law 492 = .ok (.iconst 2, 1) := by decide +kernel
theorem dL_law_493 : decode cL_law 493 = .ok (.iadd, 1) := by decide +kernel
theorem dL_law_494 : decode cL_law 494 = .ok (.iaload, 1) := by decide +kernel
theorem dL_law_495 : decode cL_law 495 = .ok (.invokevirtual 105, 3) := by decide +kernel
theorem dL_law_498 : decode cL_law 498 = .ok (.istore 6, 2) := by decide +kernel
theorem dL_law_500 : decode cL_law 500 = .ok (.aload_n 2, 1) := by decide +kernel
theorem dL_law_501 : decode cL_law 501 = .ok (.invokevirtual 90, 3) := by decide +kernel
theorem dL_law_504 : decode cL_law 504 = .ok (.iload 5, 2) := by decide +kernel
theorem dL_law_506 : decode cL_law 506 = .ok (.if_icmp .eq 5, 3) := by decide +kernel
theorem dL_law_509 : decode cL_law 509 = .ok (.iconst 0, 1) := by decide +kernel
theorem dL_law_510 : decode cL_law 510 = .ok (.ireturn, 1) := by decide +kernel
theorem dL_law_511 : decode cL_law 511 = .ok (.iload 5, 2) := by decide +kernel
theorem dL_law_513 : decode cL_law 513 = .ok (.ifCond .ne 15, 3) := by decide +kernel
theorem dL_law_516 : decode cL_law 516 = .ok (.aload_n 3, 1) := by decide +kernel
theorem dL_law_517 : decode cL_law 517 = .ok (.iconst 0, 1) := by decide +kernel
theorem dL_law_518 : decode cL_law 518 = .ok (.laload, 1) := by decide +kernel
theorem dL_law_519 : decode cL_law 519 = .ok (.iload 6, 2) := by decide +kernel
theorem dL_law_521 : decode cL_law 521 = .ok (.i2l, 1) := by decide +kernel
theorem dL_law_522 : decode cL_law 522 = .ok (.lcmp, 1) := by decide +kernel
theorem dL_law_523 : decode cL_law 523 = .ok (.ifCond .eq 5, 3) := by decide +kernel
theorem dL_law_526 : decode cL_law 526 = .ok (.iconst 0, 1) := by decide +kernel
theorem dL_law_527 : decode cL_law 527 = .ok (.ireturn, 1) := by decide +kernel
theorem dL_law_528 : decode cL_law 528 = .ok (.goto 955, 3) := by decide +kernel
theorem dL_law_531 : decode cL_law 531 = .ok (.aload_n 1, 1) := by decide +kernel
theorem dL_law_532 : decode cL_law 532 = .ok (.aload_n 0, 1) := by decide +kernel
theorem dL_law_533 : decode cL_law 533 = .ok (.iload 4, 2) := by decide +kernel
theorem dL_law_535 : decode cL_law 535 = .ok (.iconst 1, 1) := by decide +kernel
