/-! the law's instructions -/
theorem dl_466 : decode code 466 = .ok (.iload_n 3, 1) := by decide +kernel
theorem dl_467 : decode code 467 = .ok (.iconst 1, 1) := by decide +kernel
theorem dl_468 : decode code 468 = .ok (.iadd, 1) := by decide +kernel
theorem dl_469 : decode code 469 = .ok (.iaload, 1) := by decide +kernel
theorem dl_470 : decode code 470 = .ok (.invokevirtual 47, 3) := by decide +kernel
theorem dl_473 : decode code 473 = .ok (.if_icmp .eq 667, 3) := by decide +kernel
theorem dl_476 : decode code 476 = .ok (.iconst 0, 1) := by decide +kernel
theorem dl_477 : decode code 477 = .ok (.ireturn, 1) := by decide +kernel
theorem dl_478 : decode code 478 = .ok (.aload_n 1, 1) := by decide +kernel
theorem dl_479 : decode code 479 = .ok (.aload_n 0, 1) := by decide +kernel
theorem dl_480 : decode code 480 = .ok (.iload_n 3, 1) := by decide +kernel
theorem dl_481 : decode code 481 = .ok (.iconst 1, 1) := by decide +kernel
theorem dl_482 : decode code 482 = .ok (.iadd, 1) := by decide +kernel
theorem dl_483 : decode code 483 = .ok (.iaload, 1) := by decide +kernel
theorem dl_484 : decode code 484 = .ok (.invokevirtual 48, 3) := by decide +kernel
theorem dl_487 : decode code 487 = .ok (.aload_n 2, 1) := by decide +kernel
theorem dl_488 : decode code 488 = .ok (.aload_n 0, 1) := by decide +kernel
theorem dl_489 : decode code 489 = .ok (.iload_n 3, 1) := by decide +kernel
theorem dl_490 : decode code 490 = .ok (.iconst 1, 1) := by decide +kernel
theorem dl_491 : decode code 491 = .ok (.iadd, 1) := by decide +kernel
theorem dl_492 : decode code 492 = .ok (.iaload, 1) := by decide +kernel
theorem dl_493 : decode code 493 = .ok (.invokevirtual 51, 3) := by decide +kernel
theorem dl_496 : decode code 496 = .ok (.if_icmp .eq 644, 3) := by decide +kernel
theorem dl_499 : decode code 499 = .ok (.iconst 0, 1) := by decide +kernel
theorem dl_500 : decode code 500 = .ok (.ireturn, 1) := by decide +kernel
theorem dl_501 : decode code 501 = .ok (.aload_n 1, 1) := by decide +kernel
theorem dl_502 : decode code 502 = .ok (.aload_n 0, 1) := by decide +kernel
theorem dl_503 : decode code 503 = .ok (.iload_n 3, 1) := by decide +kernel
theorem dl_504 : decode code 504 = .ok (.iconst 1, 1) := by decide +kernel
theorem dl_505 : decode code 505 = .ok (.iadd, 1) := by decide +kernel
theorem dl_506 : decode code 506 = .ok (.iaload, 1) := by decide +kernel
theorem dl_507 : decode code 507 = .ok (.aload_n 0, 1) := by decide +kernel
theorem dl_508 : decode code 508 = .ok (.iload_n 3, 1) := by decide +kernel
theorem dl_509 : decode code 509 = .ok (.iconst 2, 1) := by decide +kernel
theorem dl_510 : decode code 510 = .ok (.iadd, 1) := by decide +kernel
theorem dl_511 : decode code 511 = .ok (.iaload, 1) := by decide +kernel
theorem dl_512 : decode code 512 = .ok (.aload_n 0, 1) := by decide +kernel
theorem dl_513 : decode code 513 = .ok (.iload_n 3, 1) := by decide +kernel
theorem dl_514 : decode code 514 = .ok (.iconst 3, 1) := by decide +kernel
theorem dl_515 : decode code 515 = .ok (.iadd, 1) := by decide +kernel
theorem dl_516 : decode code 516 = .ok (.iaload, 1) := by decide +kernel
theorem dl_517 : decode code 517 = .ok (.invokevirtual 52, 3) := by decide +kernel
theorem dl_520 : decode code 520 = .ok (.aload_n 2, 1) := by decide +kernel
theorem dl_521 : decode code 521 = .ok (.aload_n 0, 1) := by decide +kernel
theorem dl_522 : decode code 522 = .ok (.iload_n 3, 1) := by decide +kernel
theorem dl_523 : decode code 523 = .ok (.iconst 1, 1) := by decide +kernel
theorem dl_524 : decode code 524 = .ok (.iadd, 1) := by decide +kernel
theorem dl_525 : decode code 525 = .ok (.iaload, 1) := by decide +kernel
theorem dl_526 : decode code 526 = .ok (.aload_n 0, 1) := by decide +kernel
theorem dl_527 : decode code 527 = .ok (.iload_n 3, 1) := by decide +kernel
theorem dl_528 : decode code 528 = .ok (.iconst 2, 1) := by decide +kernel
theorem dl_529 : decode code 529 = .ok (.iadd, 1) := by decide +kernel
theorem dl_530 : decode code 530 = .ok (.iaload, 1) := by decide +kernel
theorem dl_531 : decode code 531 = .ok (.aload_n 0, 1) := by decide +kernel
theorem dl_532 : decode code 532 = .ok (.iload_n 3, 1) := by decide +kernel
theorem dl_533 : decode code 533 = .ok (.iconst 3, 1) := by decide +kernel
theorem dl_534 : decode code 534 = .ok (.iadd, 1) := by decide +kernel
theorem dl_535 : decode code 535 = .ok (.iaload, 1) := by decide +kernel
theorem dl_536 : decode code 536 = .ok (.invokevirtual 56, 3) := by decide +kernel
theorem dl_539 : decode code 539 = .ok (.if_icmp .eq 601, 3) := by decide +kernel
theorem dl_542 : decode code 542 = .ok (.iconst 0, 1) := by decide +kernel
theorem dl_543 : decode code 543 = .ok (.ireturn, 1) := by decide +kernel
theorem dl_544 : decode code 544 = .ok (.aload_n 1, 1) := by decide +kernel
theorem dl_545 : decode code 545 = .ok (.aload_n 0, 1) := by decide +kernel
theorem dl_546 : decode code 546 = .ok (.iload_n 3, 1) := by decide +kernel
theorem dl_547 : decode code 547 = .ok (.iconst 1, 1) := by decide +kernel
theorem dl_548 : decode code 548 = .ok (.iadd, 1) := by decide +kernel
theorem dl_549 : decode code 549 = .ok (.iaload, 1) := by decide +kernel
theorem dl_550 : decode code 550 = .ok (.invokevirtual 57, 3) := by decide +kernel
theorem dl_553 : decode code 553 = .ok (.aload_n 2, 1) := by decide +kernel
theorem dl_554 : decode code 554 = .ok (.aload_n 0, 1) := by decide +kernel
theorem dl_555 : decode code 555 = .ok (.iload_n 3, 1) := by decide +kernel
theorem dl_556 : decode code 556 = .ok (.iconst 1, 1) := by decide +kernel
theorem dl_557 : decode code 557 = .ok (.iadd, 1) := by decide +kernel
theorem dl_558 : decode code 558 = .ok (.iaload, 1) := by decide +kernel
theorem dl_559 : decode code 559 = .ok (.invokevirtual 60, 3) := by decide +kernel
theorem dl_562 : decode code 562 = .ok (.if_icmp .eq 578, 3) := by decide +kernel
theorem dl_565 : decode code 565 = .ok (.iconst 0, 1) := by decide +kernel
theorem dl_566 : decode code 566 = .ok (.ireturn, 1) := by decide +kernel
theorem dl_567 : decode code 567 = .ok (.aload_n 1, 1) := by decide +kernel
theorem dl_568 : decode code 568 = .ok (.aload_n 0, 1) := by decide +kernel
theorem dl_569 : decode code 569 = .ok (.iload_n 3, 1) := by decide +kernel
theorem dl_570 : decode code 570 = .ok (.iconst 1, 1) := by decide +kernel
theorem dl_571 : decode code 571 = .ok (.iadd, 1) := by decide +kernel
theorem dl_572 : decode code 572 = .ok (.iaload, 1) := by decide +kernel
theorem dl_573 : decode code 573 = .ok (.invokevirtual 61, 3) := by decide +kernel
theorem dl_576 : decode code 576 = .ok (.aload_n 2, 1) := by decide +kernel
theorem dl_577 : decode code 577 = .ok (.aload_n 0, 1) := by decide +kernel
theorem dl_578 : decode code 578 = .ok (.iload_n 3, 1) := by decide +kernel
theorem dl_579 : decode code 579 = .ok (.iconst 1, 1) := by decide +kernel
theorem dl_580 : decode code 580 = .ok (.iadd, 1) := by decide +kernel
theorem dl_581 : decode code 581 = .ok (.iaload, 1) := by decide +kernel
theorem dl_582 : decode code 582 = .ok (.invokevirtual 64, 3) := by decide +kernel
theorem dl_585 : decode code 585 = .ok (.if_icmp .eq 555, 3) := by decide +kernel
theorem dl_588 : decode code 588 = .ok (.iconst 0, 1) := by decide +kernel
theorem dl_589 : decode code 589 = .ok (.ireturn, 1) := by decide +kernel
theorem dl_590 : decode code 590 = .ok (.aload_n 1, 1) := by decide +kernel
theorem dl_591 : decode code 591 = .ok (.invokevirtual 65, 3) := by decide +kernel
theorem dl_594 : decode code 594 = .ok (.aload_n 2, 1) := by decide +kernel
theorem dl_595 : decode code 595 = .ok (.invokevirtual 69, 3) := by decide +kernel
theorem dl_598 : decode code 598 = .ok (.if_icmp .eq 542, 3) := by decide +kernel
theorem dl_601 : decode code 601 = .ok (.iconst 0, 1) := by decide +kernel
theorem dl_602 : decode code 602 = .ok (.ireturn, 1) := by decide +kernel
theorem dl_603 : decode code 603 = .ok (.aload_n 1, 1) := by decide +kernel
theorem dl_604 : decode code 604 = .ok (.aload_n 0, 1) := by decide +kernel
theorem dl_605 : decode code 605 = .ok (.iload_n 3, 1) := by decide +kernel
theorem dl_606 : decode code 606 = .ok (.iconst 1, 1) := by decide +kernel
theorem dl_607 : decode code 607 = .ok (.iadd, 1) := by decide +kernel
theorem dl_608 : decode code 608 = .ok (.iaload, 1) := by decide +kernel
theorem dl_609 : decode code 609 = .ok (.invokevirtual 70, 3) := by decide +kernel
theorem dl_612 : decode code 612 = .ok (.aload_n 2, 1) := by decide +kernel
theorem dl_613 : decode code 613 = .ok (.aload_n 0, 1) := by decide +kernel
theorem dl_614 : decode code 614 = .ok (.iload_n 3, 1) := by decide +kernel
theorem dl_615 : decode code 615 = .ok (.iconst 1, 1) := by decide +kernel
theorem dl_616 : decode code 616 = .ok (.iadd, 1) := by decide +kernel
theorem dl_617 : decode code 617 = .ok (.iaload, 1) := by decide +kernel
theorem dl_618 : decode code 618 = .ok (.invokevirtual 73, 3) := by decide +kernel
theorem dl_621 : decode code 621 = .ok (.if_icmp .eq 519, 3) := by decide +kernel
theorem dl_624 : decode code 624 = .ok (.iconst 0, 1) := by decide +kernel
theorem dl_625 : decode code 625 = .ok (.ireturn, 1) := by decide +kernel
theorem dl_626 : decode code 626 = .ok (.aload_n 1, 1) := by decide +kernel
theorem dl_627 : decode code 627 = .ok (.aload_n 0, 1) := by decide +kernel
theorem dl_628 : decode code 628 = .ok (.iload_n 3, 1) := by decide +kernel
theorem dl_629 : decode code 629 = .ok (.iconst 1, 1) := by decide +kernel
theorem dl_630 : decode code 630 = .ok (.iadd, 1) := by decide +kernel
theorem dl_631 : decode code 631 = .ok (.iaload, 1) := by decide +kernel
theorem dl_632 : decode code 632 = .ok (.invokevirtual 74, 3) := by decide +kernel
theorem dl_635 : decode code 635 = .ok (.aload_n 2, 1) := by decide +kernel
theorem dl_636 : decode code 636 = .ok (.aload_n 0, 1) := by decide +kernel
theorem dl_637 : decode code 637 = .ok (.iload_n 3, 1) := by decide +kernel
