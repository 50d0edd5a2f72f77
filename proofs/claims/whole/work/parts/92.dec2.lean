/-! the law's instructions, 3 -/
theorem d_W_423 : decode code 423 = .ok (.iaload, 1) := by decide +kernel
theorem d_W_424 : decode code 424 = .ok (.invokevirtual 66, 3) := by decide +kernel
theorem d_W_427 : decode code 427 = .ok (.aload_n 2, 1) := by decide +kernel
theorem d_W_428 : decode code 428 = .ok (.aload_n 0, 1) := by decide +kernel
theorem d_W_429 : decode code 429 = .ok (.iload 4, 2) := by decide +kernel
theorem d_W_431 : decode code 431 = .ok (.iconst 1, 1) := by decide +kernel
theorem d_W_432 : decode code 432 = .ok (.iadd, 1) := by decide +kernel
theorem d_W_433 : decode code 433 = .ok (.iaload, 1) := by decide +kernel
theorem d_W_434 : decode code 434 = .ok (.invokevirtual 69, 3) := by decide +kernel
theorem d_W_437 : decode code 437 = .ok (.if_icmp .eq 309, 3) := by decide +kernel
theorem d_W_440 : decode code 440 = .ok (.iconst 0, 1) := by decide +kernel
theorem d_W_441 : decode code 441 = .ok (.ireturn, 1) := by decide +kernel
theorem d_W_442 : decode code 442 = .ok (.aload_n 1, 1) := by decide +kernel
theorem d_W_443 : decode code 443 = .ok (.aload_n 0, 1) := by decide +kernel
theorem d_W_444 : decode code 444 = .ok (.iload 4, 2) := by decide +kernel
theorem d_W_446 : decode code 446 = .ok (.iconst 1, 1) := by decide +kernel
theorem d_W_447 : decode code 447 = .ok (.iadd, 1) := by decide +kernel
theorem d_W_448 : decode code 448 = .ok (.iaload, 1) := by decide +kernel
theorem d_W_449 : decode code 449 = .ok (.aload_n 0, 1) := by decide +kernel
theorem d_W_450 : decode code 450 = .ok (.iload 4, 2) := by decide +kernel
theorem d_W_452 : decode code 452 = .ok (.iconst 2, 1) := by decide +kernel
theorem d_W_453 : decode code 453 = .ok (.iadd, 1) := by decide +kernel
theorem d_W_454 : decode code 454 = .ok (.iaload, 1) := by decide +kernel
theorem d_W_455 : decode code 455 = .ok (.invokevirtual 70, 3) := by decide +kernel
theorem d_W_458 : decode code 458 = .ok (.aload_n 2, 1) := by decide +kernel
theorem d_W_459 : decode code 459 = .ok (.aload_n 0, 1) := by decide +kernel
theorem d_W_460 : decode code 460 = .ok (.iload 4, 2) := by decide +kernel
theorem d_W_462 : decode code 462 = .ok (.iconst 1, 1) := by decide +kernel
theorem d_W_463 : decode code 463 = .ok (.iadd, 1) := by decide +kernel
theorem d_W_464 : decode code 464 = .ok (.iaload, 1) := by decide +kernel
theorem d_W_465 : decode code 465 = .ok (.aload_n 0, 1) := by decide +kernel
theorem d_W_466 : decode code 466 = .ok (.iload 4, 2) := by decide +kernel
theorem d_W_468 : decode code 468 = .ok (.iconst 2, 1) := by decide +kernel
theorem d_W_469 : decode code 469 = .ok (.iadd, 1) := by decide +kernel
theorem d_W_470 : decode code 470 = .ok (.iaload, 1) := by decide +kernel
theorem d_W_471 : decode code 471 = .ok (.invokevirtual 73, 3) := by decide +kernel
theorem d_W_474 : decode code 474 = .ok (.if_icmp .eq 272, 3) := by decide +kernel
theorem d_W_477 : decode code 477 = .ok (.iconst 0, 1) := by decide +kernel
theorem d_W_478 : decode code 478 = .ok (.ireturn, 1) := by decide +kernel
theorem d_W_479 : decode code 479 = .ok (.aload_n 1, 1) := by decide +kernel
theorem d_W_480 : decode code 480 = .ok (.aload_n 0, 1) := by decide +kernel
theorem d_W_481 : decode code 481 = .ok (.iload 4, 2) := by decide +kernel
theorem d_W_483 : decode code 483 = .ok (.iconst 1, 1) := by decide +kernel
theorem d_W_484 : decode code 484 = .ok (.iadd, 1) := by decide +kernel
theorem d_W_485 : decode code 485 = .ok (.iaload, 1) := by decide +kernel
theorem d_W_486 : decode code 486 = .ok (.aload_n 0, 1) := by decide +kernel
theorem d_W_487 : decode code 487 = .ok (.iload 4, 2) := by decide +kernel
theorem d_W_489 : decode code 489 = .ok (.iconst 2, 1) := by decide +kernel
theorem d_W_490 : decode code 490 = .ok (.iadd, 1) := by decide +kernel
theorem d_W_491 : decode code 491 = .ok (.iaload, 1) := by decide +kernel
theorem d_W_492 : decode code 492 = .ok (.invokevirtual 74, 3) := by decide +kernel
theorem d_W_495 : decode code 495 = .ok (.aload_n 2, 1) := by decide +kernel
theorem d_W_496 : decode code 496 = .ok (.aload_n 0, 1) := by decide +kernel
theorem d_W_497 : decode code 497 = .ok (.iload 4, 2) := by decide +kernel
theorem d_W_499 : decode code 499 = .ok (.iconst 1, 1) := by decide +kernel
theorem d_W_500 : decode code 500 = .ok (.iadd, 1) := by decide +kernel
theorem d_W_501 : decode code 501 = .ok (.iaload, 1) := by decide +kernel
theorem d_W_502 : decode code 502 = .ok (.aload_n 0, 1) := by decide +kernel
theorem d_W_503 : decode code 503 = .ok (.iload 4, 2) := by decide +kernel
theorem d_W_505 : decode code 505 = .ok (.iconst 2, 1) := by decide +kernel
theorem d_W_506 : decode code 506 = .ok (.iadd, 1) := by decide +kernel
theorem d_W_507 : decode code 507 = .ok (.iaload, 1) := by decide +kernel
theorem d_W_508 : decode code 508 = .ok (.invokevirtual 77, 3) := by decide +kernel
theorem d_W_511 : decode code 511 = .ok (.if_icmp .eq 235, 3) := by decide +kernel
theorem d_W_514 : decode code 514 = .ok (.iconst 0, 1) := by decide +kernel
theorem d_W_515 : decode code 515 = .ok (.ireturn, 1) := by decide +kernel
theorem d_W_516 : decode code 516 = .ok (.aload_n 1, 1) := by decide +kernel
theorem d_W_517 : decode code 517 = .ok (.aload_n 0, 1) := by decide +kernel
theorem d_W_518 : decode code 518 = .ok (.iload 4, 2) := by decide +kernel
theorem d_W_520 : decode code 520 = .ok (.iconst 1, 1) := by decide +kernel
theorem d_W_521 : decode code 521 = .ok (.iadd, 1) := by decide +kernel
theorem d_W_522 : decode code 522 = .ok (.iaload, 1) := by decide +kernel
theorem d_W_523 : decode code 523 = .ok (.aload_n 0, 1) := by decide +kernel
theorem d_W_524 : decode code 524 = .ok (.iload 4, 2) := by decide +kernel
theorem d_W_526 : decode code 526 = .ok (.iconst 2, 1) := by decide +kernel
theorem d_W_527 : decode code 527 = .ok (.iadd, 1) := by decide +kernel
theorem d_W_528 : decode code 528 = .ok (.iaload, 1) := by decide +kernel
theorem d_W_529 : decode code 529 = .ok (.aload_n 0, 1) := by decide +kernel
theorem d_W_530 : decode code 530 = .ok (.iload 4, 2) := by decide +kernel
theorem d_W_532 : decode code 532 = .ok (.iconst 3, 1) := by decide +kernel
theorem d_W_533 : decode code 533 = .ok (.iadd, 1) := by decide +kernel
theorem d_W_534 : decode code 534 = .ok (.iaload, 1) := by decide +kernel
theorem d_W_535 : decode code 535 = .ok (.invokevirtual 78, 3) := by decide +kernel
theorem d_W_538 : decode code 538 = .ok (.aload_n 2, 1) := by decide +kernel
theorem d_W_539 : decode code 539 = .ok (.aload_n 0, 1) := by decide +kernel
theorem d_W_540 : decode code 540 = .ok (.iload 4, 2) := by decide +kernel
theorem d_W_542 : decode code 542 = .ok (.iconst 1, 1) := by decide +kernel
theorem d_W_543 : decode code 543 = .ok (.iadd, 1) := by decide +kernel
theorem d_W_544 : decode code 544 = .ok (.iaload, 1) := by decide +kernel
theorem d_W_545 : decode code 545 = .ok (.aload_n 0, 1) := by decide +kernel
theorem d_W_546 : decode code 546 = .ok (.iload 4, 2) := by decide +kernel
theorem d_W_548 : decode code 548 = .ok (.iconst 2, 1) := by decide +kernel
theorem d_W_549 : decode code 549 = .ok (.iadd, 1) := by decide +kernel
theorem d_W_550 : decode code 550 = .ok (.iaload, 1) := by decide +kernel
theorem d_W_551 : decode code 551 = .ok (.aload_n 0, 1) := by decide +kernel
theorem d_W_552 : decode code 552 = .ok (.iload 4, 2) := by decide +kernel
theorem d_W_554 : decode code 554 = .ok (.iconst 3, 1) := by decide +kernel
theorem d_W_555 : decode code 555 = .ok (.iadd, 1) := by decide +kernel
theorem d_W_556 : decode code 556 = .ok (.iaload, 1) := by decide +kernel
theorem d_W_557 : decode code 557 = .ok (.invokevirtual 81, 3) := by decide +kernel
theorem d_W_560 : decode code 560 = .ok (.if_icmp .eq 186, 3) := by decide +kernel
theorem d_W_563 : decode code 563 = .ok (.iconst 0, 1) := by decide +kernel
theorem d_W_564 : decode code 564 = .ok (.ireturn, 1) := by decide +kernel
theorem d_W_565 : decode code 565 = .ok (.aload_n 1, 1) := by decide +kernel
theorem d_W_566 : decode code 566 = .ok (.invokevirtual 82, 3) := by decide +kernel
theorem d_W_569 : decode code 569 = .ok (.aload_n 2, 1) := by decide +kernel
theorem d_W_570 : decode code 570 = .ok (.invokevirtual 85, 3) := by decide +kernel
theorem d_W_573 : decode code 573 = .ok (.if_icmp .eq 173, 3) := by decide +kernel
theorem d_W_576 : decode code 576 = .ok (.iconst 0, 1) := by decide +kernel
theorem d_W_577 : decode code 577 = .ok (.ireturn, 1) := by decide +kernel
theorem d_W_578 : decode code 578 = .ok (.aload_n 1, 1) := by decide +kernel
theorem d_W_579 : decode code 579 = .ok (.aload_n 3, 1) := by decide +kernel
theorem d_W_580 : decode code 580 = .ok (.invokestatic 86, 3) := by decide +kernel
theorem d_W_583 : decode code 583 = .ok (.istore 5, 2) := by decide +kernel
theorem d_W_585 : decode code 585 = .ok (.aload_n 2, 1) := by decide +kernel
