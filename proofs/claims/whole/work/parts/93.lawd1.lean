/-! what the law says, byte by byte; written by wip/gen/gen93.py -/
theorem ld_417 : decode (mB 231) 417 = .ok (.iload_n 3, 1) := by decide +kernel
theorem ld_418 : decode (mB 231) 418 = .ok (.iconst 1, 1) := by decide +kernel
theorem ld_419 : decode (mB 231) 419 = .ok (.iadd, 1) := by decide +kernel
theorem ld_420 : decode (mB 231) 420 = .ok (.iaload, 1) := by decide +kernel
theorem ld_421 : decode (mB 231) 421 = .ok (.invokevirtual 46, 3) := by decide +kernel
theorem ld_424 : decode (mB 231) 424 = .ok (.aload_n 2, 1) := by decide +kernel
theorem ld_425 : decode (mB 231) 425 = .ok (.aload_n 0, 1) := by decide +kernel
theorem ld_426 : decode (mB 231) 426 = .ok (.iload_n 3, 1) := by decide +kernel
theorem ld_427 : decode (mB 231) 427 = .ok (.iconst 1, 1) := by decide +kernel
theorem ld_428 : decode (mB 231) 428 = .ok (.iadd, 1) := by decide +kernel
theorem ld_429 : decode (mB 231) 429 = .ok (.iaload, 1) := by decide +kernel
theorem ld_430 : decode (mB 231) 430 = .ok (.invokevirtual 49, 3) := by decide +kernel
theorem ld_433 : decode (mB 231) 433 = .ok (.if_icmp .eq 593, 3) := by decide +kernel
theorem ld_436 : decode (mB 231) 436 = .ok (.iconst 0, 1) := by decide +kernel
theorem ld_437 : decode (mB 231) 437 = .ok (.ireturn, 1) := by decide +kernel
theorem ld_438 : decode (mB 231) 438 = .ok (.aload_n 1, 1) := by decide +kernel
theorem ld_439 : decode (mB 231) 439 = .ok (.aload_n 0, 1) := by decide +kernel
theorem ld_440 : decode (mB 231) 440 = .ok (.iload_n 3, 1) := by decide +kernel
theorem ld_441 : decode (mB 231) 441 = .ok (.iconst 1, 1) := by decide +kernel
theorem ld_442 : decode (mB 231) 442 = .ok (.iadd, 1) := by decide +kernel
theorem ld_443 : decode (mB 231) 443 = .ok (.iaload, 1) := by decide +kernel
theorem ld_444 : decode (mB 231) 444 = .ok (.aload_n 0, 1) := by decide +kernel
theorem ld_445 : decode (mB 231) 445 = .ok (.iload_n 3, 1) := by decide +kernel
theorem ld_446 : decode (mB 231) 446 = .ok (.iconst 2, 1) := by decide +kernel
theorem ld_447 : decode (mB 231) 447 = .ok (.iadd, 1) := by decide +kernel
theorem ld_448 : decode (mB 231) 448 = .ok (.iaload, 1) := by decide +kernel
theorem ld_449 : decode (mB 231) 449 = .ok (.invokevirtual 50, 3) := by decide +kernel
theorem ld_452 : decode (mB 231) 452 = .ok (.aload_n 2, 1) := by decide +kernel
theorem ld_453 : decode (mB 231) 453 = .ok (.aload_n 0, 1) := by decide +kernel
theorem ld_454 : decode (mB 231) 454 = .ok (.iload_n 3, 1) := by decide +kernel
theorem ld_455 : decode (mB 231) 455 = .ok (.iconst 1, 1) := by decide +kernel
theorem ld_456 : decode (mB 231) 456 = .ok (.iadd, 1) := by decide +kernel
theorem ld_457 : decode (mB 231) 457 = .ok (.iaload, 1) := by decide +kernel
theorem ld_458 : decode (mB 231) 458 = .ok (.aload_n 0, 1) := by decide +kernel
theorem ld_459 : decode (mB 231) 459 = .ok (.iload_n 3, 1) := by decide +kernel
theorem ld_460 : decode (mB 231) 460 = .ok (.iconst 2, 1) := by decide +kernel
theorem ld_461 : decode (mB 231) 461 = .ok (.iadd, 1) := by decide +kernel
theorem ld_462 : decode (mB 231) 462 = .ok (.iaload, 1) := by decide +kernel
theorem ld_463 : decode (mB 231) 463 = .ok (.invokevirtual 53, 3) := by decide +kernel
theorem ld_466 : decode (mB 231) 466 = .ok (.if_icmp .eq 560, 3) := by decide +kernel
theorem ld_469 : decode (mB 231) 469 = .ok (.iconst 0, 1) := by decide +kernel
theorem ld_470 : decode (mB 231) 470 = .ok (.ireturn, 1) := by decide +kernel
theorem ld_471 : decode (mB 231) 471 = .ok (.aload_n 1, 1) := by decide +kernel
theorem ld_472 : decode (mB 231) 472 = .ok (.aload_n 0, 1) := by decide +kernel
theorem ld_473 : decode (mB 231) 473 = .ok (.iload_n 3, 1) := by decide +kernel
theorem ld_474 : decode (mB 231) 474 = .ok (.iconst 1, 1) := by decide +kernel
theorem ld_475 : decode (mB 231) 475 = .ok (.iadd, 1) := by decide +kernel
theorem ld_476 : decode (mB 231) 476 = .ok (.iaload, 1) := by decide +kernel
theorem ld_477 : decode (mB 231) 477 = .ok (.aload_n 0, 1) := by decide +kernel
theorem ld_478 : decode (mB 231) 478 = .ok (.iload_n 3, 1) := by decide +kernel
theorem ld_479 : decode (mB 231) 479 = .ok (.iconst 2, 1) := by decide +kernel
theorem ld_480 : decode (mB 231) 480 = .ok (.iadd, 1) := by decide +kernel
theorem ld_481 : decode (mB 231) 481 = .ok (.iaload, 1) := by decide +kernel
theorem ld_482 : decode (mB 231) 482 = .ok (.invokevirtual 54, 3) := by decide +kernel
theorem ld_485 : decode (mB 231) 485 = .ok (.aload_n 2, 1) := by decide +kernel
theorem ld_486 : decode (mB 231) 486 = .ok (.aload_n 0, 1) := by decide +kernel
theorem ld_487 : decode (mB 231) 487 = .ok (.iload_n 3, 1) := by decide +kernel
theorem ld_488 : decode (mB 231) 488 = .ok (.iconst 1, 1) := by decide +kernel
theorem ld_489 : decode (mB 231) 489 = .ok (.iadd, 1) := by decide +kernel
theorem ld_490 : decode (mB 231) 490 = .ok (.iaload, 1) := by decide +kernel
theorem ld_491 : decode (mB 231) 491 = .ok (.aload_n 0, 1) := by decide +kernel
theorem ld_492 : decode (mB 231) 492 = .ok (.iload_n 3, 1) := by decide +kernel
theorem ld_493 : decode (mB 231) 493 = .ok (.iconst 2, 1) := by decide +kernel
theorem ld_494 : decode (mB 231) 494 = .ok (.iadd, 1) := by decide +kernel
theorem ld_495 : decode (mB 231) 495 = .ok (.iaload, 1) := by decide +kernel
theorem ld_496 : decode (mB 231) 496 = .ok (.invokevirtual 57, 3) := by decide +kernel
theorem ld_499 : decode (mB 231) 499 = .ok (.if_icmp .eq 527, 3) := by decide +kernel
theorem ld_502 : decode (mB 231) 502 = .ok (.iconst 0, 1) := by decide +kernel
theorem ld_503 : decode (mB 231) 503 = .ok (.ireturn, 1) := by decide +kernel
theorem ld_504 : decode (mB 231) 504 = .ok (.aload_n 1, 1) := by decide +kernel
theorem ld_505 : decode (mB 231) 505 = .ok (.aload_n 0, 1) := by decide +kernel
theorem ld_506 : decode (mB 231) 506 = .ok (.iload_n 3, 1) := by decide +kernel
theorem ld_507 : decode (mB 231) 507 = .ok (.iconst 1, 1) := by decide +kernel
theorem ld_508 : decode (mB 231) 508 = .ok (.iadd, 1) := by decide +kernel
theorem ld_509 : decode (mB 231) 509 = .ok (.iaload, 1) := by decide +kernel
theorem ld_510 : decode (mB 231) 510 = .ok (.aload_n 0, 1) := by decide +kernel
theorem ld_511 : decode (mB 231) 511 = .ok (.iload_n 3, 1) := by decide +kernel
theorem ld_512 : decode (mB 231) 512 = .ok (.iconst 2, 1) := by decide +kernel
theorem ld_513 : decode (mB 231) 513 = .ok (.iadd, 1) := by decide +kernel
theorem ld_514 : decode (mB 231) 514 = .ok (.iaload, 1) := by decide +kernel
theorem ld_515 : decode (mB 231) 515 = .ok (.aload_n 0, 1) := by decide +kernel
theorem ld_516 : decode (mB 231) 516 = .ok (.iload_n 3, 1) := by decide +kernel
theorem ld_517 : decode (mB 231) 517 = .ok (.iconst 3, 1) := by decide +kernel
theorem ld_518 : decode (mB 231) 518 = .ok (.iadd, 1) := by decide +kernel
theorem ld_519 : decode (mB 231) 519 = .ok (.iaload, 1) := by decide +kernel
theorem ld_520 : decode (mB 231) 520 = .ok (.aload_n 0, 1) := by decide +kernel
theorem ld_521 : decode (mB 231) 521 = .ok (.iload_n 3, 1) := by decide +kernel
theorem ld_522 : decode (mB 231) 522 = .ok (.iconst 4, 1) := by decide +kernel
theorem ld_523 : decode (mB 231) 523 = .ok (.iadd, 1) := by decide +kernel
theorem ld_524 : decode (mB 231) 524 = .ok (.iaload, 1) := by decide +kernel
theorem ld_525 : decode (mB 231) 525 = .ok (.aload_n 0, 1) := by decide +kernel
theorem ld_526 : decode (mB 231) 526 = .ok (.iload_n 3, 1) := by decide +kernel
theorem ld_527 : decode (mB 231) 527 = .ok (.iconst 5, 1) := by decide +kernel
theorem ld_528 : decode (mB 231) 528 = .ok (.iadd, 1) := by decide +kernel
theorem ld_529 : decode (mB 231) 529 = .ok (.iaload, 1) := by decide +kernel
theorem ld_530 : decode (mB 231) 530 = .ok (.invokevirtual 58, 3) := by decide +kernel
theorem ld_533 : decode (mB 231) 533 = .ok (.aload_n 2, 1) := by decide +kernel
theorem ld_534 : decode (mB 231) 534 = .ok (.aload_n 0, 1) := by decide +kernel
theorem ld_535 : decode (mB 231) 535 = .ok (.iload_n 3, 1) := by decide +kernel
theorem ld_536 : decode (mB 231) 536 = .ok (.iconst 1, 1) := by decide +kernel
theorem ld_537 : decode (mB 231) 537 = .ok (.iadd, 1) := by decide +kernel
theorem ld_538 : decode (mB 231) 538 = .ok (.iaload, 1) := by decide +kernel
theorem ld_539 : decode (mB 231) 539 = .ok (.aload_n 0, 1) := by decide +kernel
theorem ld_540 : decode (mB 231) 540 = .ok (.iload_n 3, 1) := by decide +kernel
theorem ld_541 : decode (mB 231) 541 = .ok (.iconst 2, 1) := by decide +kernel
theorem ld_542 : decode (mB 231) 542 = .ok (.iadd, 1) := by decide +kernel
theorem ld_543 : decode (mB 231) 543 = .ok (.iaload, 1) := by decide +kernel
theorem ld_544 : decode (mB 231) 544 = .ok (.aload_n 0, 1) := by decide +kernel
theorem ld_545 : decode (mB 231) 545 = .ok (.iload_n 3, 1) := by decide +kernel
theorem ld_546 : decode (mB 231) 546 = .ok (.iconst 3, 1) := by decide +kernel
theorem ld_547 : decode (mB 231) 547 = .ok (.iadd, 1) := by decide +kernel
theorem ld_548 : decode (mB 231) 548 = .ok (.iaload, 1) := by decide +kernel
theorem ld_549 : decode (mB 231) 549 = .ok (.aload_n 0, 1) := by decide +kernel
theorem ld_550 : decode (mB 231) 550 = .ok (.iload_n 3, 1) := by decide +kernel
theorem ld_551 : decode (mB 231) 551 = .ok (.iconst 4, 1) := by decide +kernel
theorem ld_552 : decode (mB 231) 552 = .ok (.iadd, 1) := by decide +kernel
theorem ld_553 : decode (mB 231) 553 = .ok (.iaload, 1) := by decide +kernel
theorem ld_554 : decode (mB 231) 554 = .ok (.aload_n 0, 1) := by decide +kernel
theorem ld_555 : decode (mB 231) 555 = .ok (.iload_n 3, 1) := by decide +kernel
theorem ld_556 : decode (mB 231) 556 = .ok (.iconst 5, 1) := by decide +kernel
theorem ld_557 : decode (mB 231) 557 = .ok (.iadd, 1) := by decide +kernel
theorem ld_558 : decode (mB 231) 558 = .ok (.iaload, 1) := by decide +kernel
theorem ld_559 : decode (mB 231) 559 = .ok (.invokevirtual 61, 3) := by decide +kernel
theorem ld_562 : decode (mB 231) 562 = .ok (.if_icmp .eq 464, 3) := by decide +kernel
theorem ld_565 : decode (mB 231) 565 = .ok (.iconst 0, 1) := by decide +kernel
theorem ld_566 : decode (mB 231) 566 = .ok (.ireturn, 1) := by decide +kernel
theorem ld_567 : decode (mB 231) 567 = .ok (.aload_n 1, 1) := by decide +kernel
theorem ld_568 : decode (mB 231) 568 = .ok (.aload_n 0, 1) := by decide +kernel
theorem ld_569 : decode (mB 231) 569 = .ok (.iload_n 3, 1) := by decide +kernel
theorem ld_570 : decode (mB 231) 570 = .ok (.iconst 1, 1) := by decide +kernel
theorem ld_571 : decode (mB 231) 571 = .ok (.iadd, 1) := by decide +kernel
theorem ld_572 : decode (mB 231) 572 = .ok (.iaload, 1) := by decide +kernel
theorem ld_573 : decode (mB 231) 573 = .ok (.invokevirtual 62, 3) := by decide +kernel
theorem ld_576 : decode (mB 231) 576 = .ok (.aload_n 2, 1) := by decide +kernel
theorem ld_577 : decode (mB 231) 577 = .ok (.aload_n 0, 1) := by decide +kernel
theorem ld_578 : decode (mB 231) 578 = .ok (.iload_n 3, 1) := by decide +kernel
theorem ld_579 : decode (mB 231) 579 = .ok (.iconst 1, 1) := by decide +kernel
theorem ld_580 : decode (mB 231) 580 = .ok (.iadd, 1) := by decide +kernel
theorem ld_581 : decode (mB 231) 581 = .ok (.iaload, 1) := by decide +kernel
theorem ld_582 : decode (mB 231) 582 = .ok (.invokevirtual 65, 3) := by decide +kernel
theorem ld_585 : decode (mB 231) 585 = .ok (.if_icmp .eq 441, 3) := by decide +kernel
theorem ld_588 : decode (mB 231) 588 = .ok (.iconst 0, 1) := by decide +kernel
theorem ld_589 : decode (mB 231) 589 = .ok (.ireturn, 1) := by decide +kernel
theorem ld_590 : decode (mB 231) 590 = .ok (.aload_n 1, 1) := by decide +kernel
theorem ld_591 : decode (mB 231) 591 = .ok (.aload_n 0, 1) := by decide +kernel
theorem ld_592 : decode (mB 231) 592 = .ok (.iload_n 3, 1) := by decide +kernel
theorem ld_593 : decode (mB 231) 593 = .ok (.iconst 1, 1) := by decide +kernel
theorem ld_594 : decode (mB 231) 594 = .ok (.iadd, 1) := by decide +kernel
theorem ld_595 : decode (mB 231) 595 = .ok (.iaload, 1) := by decide +kernel
theorem ld_596 : decode (mB 231) 596 = .ok (.invokevirtual 66, 3) := by decide +kernel
theorem ld_599 : decode (mB 231) 599 = .ok (.aload_n 2, 1) := by decide +kernel
theorem ld_600 : decode (mB 231) 600 = .ok (.aload_n 0, 1) := by decide +kernel
theorem ld_601 : decode (mB 231) 601 = .ok (.iload_n 3, 1) := by decide +kernel
theorem ld_602 : decode (mB 231) 602 = .ok (.iconst 1, 1) := by decide +kernel
theorem ld_603 : decode (mB 231) 603 = .ok (.iadd, 1) := by decide +kernel
theorem ld_604 : decode (mB 231) 604 = .ok (.iaload, 1) := by decide +kernel
theorem ld_605 : decode (mB 231) 605 = .ok (.invokevirtual 69, 3) := by decide +kernel
theorem ld_608 : decode (mB 231) 608 = .ok (.if_icmp .eq 418, 3) := by decide +kernel
theorem ld_611 : decode (mB 231) 611 = .ok (.iconst 0, 1) := by decide +kernel
theorem ld_612 : decode (mB 231) 612 = .ok (.ireturn, 1) := by decide +kernel
theorem ld_613 : decode (mB 231) 613 = .ok (.aload_n 1, 1) := by decide +kernel
theorem ld_614 : decode (mB 231) 614 = .ok (.aload_n 0, 1) := by decide +kernel
theorem ld_615 : decode (mB 231) 615 = .ok (.iload_n 3, 1) := by decide +kernel
theorem ld_616 : decode (mB 231) 616 = .ok (.iconst 1, 1) := by decide +kernel
theorem ld_617 : decode (mB 231) 617 = .ok (.iadd, 1) := by decide +kernel
theorem ld_618 : decode (mB 231) 618 = .ok (.iaload, 1) := by decide +kernel
theorem ld_619 : decode (mB 231) 619 = .ok (.aload_n 0, 1) := by decide +kernel
theorem ld_620 : decode (mB 231) 620 = .ok (.iload_n 3, 1) := by decide +kernel
theorem ld_621 : decode (mB 231) 621 = .ok (.iconst 2, 1) := by decide +kernel
theorem ld_622 : decode (mB 231) 622 = .ok (.iadd, 1) := by decide +kernel
theorem ld_623 : decode (mB 231) 623 = .ok (.iaload, 1) := by decide +kernel
theorem ld_624 : decode (mB 231) 624 = .ok (.i2l, 1) := by decide +kernel
theorem ld_625 : decode (mB 231) 625 = .ok (.bipush 32, 2) := by decide +kernel
theorem ld_627 : decode (mB 231) 627 = .ok (.lshl, 1) := by decide +kernel
theorem ld_628 : decode (mB 231) 628 = .ok (.aload_n 0, 1) := by decide +kernel
theorem ld_629 : decode (mB 231) 629 = .ok (.iload_n 3, 1) := by decide +kernel
theorem ld_630 : decode (mB 231) 630 = .ok (.iconst 3, 1) := by decide +kernel
theorem ld_631 : decode (mB 231) 631 = .ok (.iadd, 1) := by decide +kernel
theorem ld_632 : decode (mB 231) 632 = .ok (.iaload, 1) := by decide +kernel
theorem ld_633 : decode (mB 231) 633 = .ok (.i2l, 1) := by decide +kernel
theorem ld_634 : decode (mB 231) 634 = .ok (.ldc2_w 70, 3) := by decide +kernel
theorem ld_637 : decode (mB 231) 637 = .ok (.land, 1) := by decide +kernel
theorem ld_638 : decode (mB 231) 638 = .ok (.lor, 1) := by decide +kernel
theorem ld_639 : decode (mB 231) 639 = .ok (.invokevirtual 72, 3) := by decide +kernel
theorem ld_642 : decode (mB 231) 642 = .ok (.aload_n 2, 1) := by decide +kernel
theorem ld_643 : decode (mB 231) 643 = .ok (.aload_n 0, 1) := by decide +kernel
theorem ld_644 : decode (mB 231) 644 = .ok (.iload_n 3, 1) := by decide +kernel
theorem ld_645 : decode (mB 231) 645 = .ok (.iconst 1, 1) := by decide +kernel
theorem ld_646 : decode (mB 231) 646 = .ok (.iadd, 1) := by decide +kernel
theorem ld_647 : decode (mB 231) 647 = .ok (.iaload, 1) := by decide +kernel
theorem ld_648 : decode (mB 231) 648 = .ok (.aload_n 0, 1) := by decide +kernel
theorem ld_649 : decode (mB 231) 649 = .ok (.iload_n 3, 1) := by decide +kernel
theorem ld_650 : decode (mB 231) 650 = .ok (.iconst 2, 1) := by decide +kernel
theorem ld_651 : decode (mB 231) 651 = .ok (.iadd, 1) := by decide +kernel
theorem ld_652 : decode (mB 231) 652 = .ok (.iaload, 1) := by decide +kernel
theorem ld_653 : decode (mB 231) 653 = .ok (.i2l, 1) := by decide +kernel
theorem ld_654 : decode (mB 231) 654 = .ok (.bipush 32, 2) := by decide +kernel
theorem ld_656 : decode (mB 231) 656 = .ok (.lshl, 1) := by decide +kernel
theorem ld_657 : decode (mB 231) 657 = .ok (.aload_n 0, 1) := by decide +kernel
theorem ld_658 : decode (mB 231) 658 = .ok (.iload_n 3, 1) := by decide +kernel
theorem ld_659 : decode (mB 231) 659 = .ok (.iconst 3, 1) := by decide +kernel
theorem ld_660 : decode (mB 231) 660 = .ok (.iadd, 1) := by decide +kernel
theorem ld_661 : decode (mB 231) 661 = .ok (.iaload, 1) := by decide +kernel
theorem ld_662 : decode (mB 231) 662 = .ok (.i2l, 1) := by decide +kernel
theorem ld_663 : decode (mB 231) 663 = .ok (.ldc2_w 70, 3) := by decide +kernel
theorem ld_666 : decode (mB 231) 666 = .ok (.land, 1) := by decide +kernel
theorem ld_667 : decode (mB 231) 667 = .ok (.lor, 1) := by decide +kernel
theorem ld_668 : decode (mB 231) 668 = .ok (.invokevirtual 76, 3) := by decide +kernel
theorem ld_671 : decode (mB 231) 671 = .ok (.if_icmp .eq 355, 3) := by decide +kernel
theorem ld_674 : decode (mB 231) 674 = .ok (.iconst 0, 1) := by decide +kernel
theorem ld_675 : decode (mB 231) 675 = .ok (.ireturn, 1) := by decide +kernel
theorem ld_676 : decode (mB 231) 676 = .ok (.aload_n 1, 1) := by decide +kernel
theorem ld_677 : decode (mB 231) 677 = .ok (.aload_n 0, 1) := by decide +kernel
theorem ld_678 : decode (mB 231) 678 = .ok (.iload_n 3, 1) := by decide +kernel
theorem ld_679 : decode (mB 231) 679 = .ok (.iconst 1, 1) := by decide +kernel
theorem ld_680 : decode (mB 231) 680 = .ok (.iadd, 1) := by decide +kernel
theorem ld_681 : decode (mB 231) 681 = .ok (.iaload, 1) := by decide +kernel
theorem ld_682 : decode (mB 231) 682 = .ok (.invokevirtual 77, 3) := by decide +kernel
theorem ld_685 : decode (mB 231) 685 = .ok (.aload_n 2, 1) := by decide +kernel
theorem ld_686 : decode (mB 231) 686 = .ok (.aload_n 0, 1) := by decide +kernel
theorem ld_687 : decode (mB 231) 687 = .ok (.iload_n 3, 1) := by decide +kernel
theorem ld_688 : decode (mB 231) 688 = .ok (.iconst 1, 1) := by decide +kernel
theorem ld_689 : decode (mB 231) 689 = .ok (.iadd, 1) := by decide +kernel
theorem ld_690 : decode (mB 231) 690 = .ok (.iaload, 1) := by decide +kernel
theorem ld_691 : decode (mB 231) 691 = .ok (.invokevirtual 80, 3) := by decide +kernel
theorem ld_694 : decode (mB 231) 694 = .ok (.if_icmp .eq 332, 3) := by decide +kernel
theorem ld_697 : decode (mB 231) 697 = .ok (.iconst 0, 1) := by decide +kernel
theorem ld_698 : decode (mB 231) 698 = .ok (.ireturn, 1) := by decide +kernel
theorem ld_699 : decode (mB 231) 699 = .ok (.aload_n 1, 1) := by decide +kernel
theorem ld_700 : decode (mB 231) 700 = .ok (.invokevirtual 81, 3) := by decide +kernel
theorem ld_703 : decode (mB 231) 703 = .ok (.aload_n 2, 1) := by decide +kernel
theorem ld_704 : decode (mB 231) 704 = .ok (.invokevirtual 85, 3) := by decide +kernel
theorem ld_707 : decode (mB 231) 707 = .ok (.if_icmp .eq 319, 3) := by decide +kernel
theorem ld_710 : decode (mB 231) 710 = .ok (.iconst 0, 1) := by decide +kernel
theorem ld_711 : decode (mB 231) 711 = .ok (.ireturn, 1) := by decide +kernel
theorem ld_712 : decode (mB 231) 712 = .ok (.aload_n 1, 1) := by decide +kernel
theorem ld_713 : decode (mB 231) 713 = .ok (.aload_n 0, 1) := by decide +kernel
theorem ld_714 : decode (mB 231) 714 = .ok (.iload_n 3, 1) := by decide +kernel
theorem ld_715 : decode (mB 231) 715 = .ok (.iconst 1, 1) := by decide +kernel
theorem ld_716 : decode (mB 231) 716 = .ok (.iadd, 1) := by decide +kernel
theorem ld_717 : decode (mB 231) 717 = .ok (.iaload, 1) := by decide +kernel
theorem ld_718 : decode (mB 231) 718 = .ok (.aload_n 0, 1) := by decide +kernel
theorem ld_719 : decode (mB 231) 719 = .ok (.iload_n 3, 1) := by decide +kernel
theorem ld_720 : decode (mB 231) 720 = .ok (.iconst 2, 1) := by decide +kernel
theorem ld_721 : decode (mB 231) 721 = .ok (.iadd, 1) := by decide +kernel
theorem ld_722 : decode (mB 231) 722 = .ok (.iaload, 1) := by decide +kernel
theorem ld_723 : decode (mB 231) 723 = .ok (.invokevirtual 86, 3) := by decide +kernel
theorem ld_726 : decode (mB 231) 726 = .ok (.aload_n 2, 1) := by decide +kernel
theorem ld_727 : decode (mB 231) 727 = .ok (.aload_n 0, 1) := by decide +kernel
theorem ld_728 : decode (mB 231) 728 = .ok (.iload_n 3, 1) := by decide +kernel
theorem ld_729 : decode (mB 231) 729 = .ok (.iconst 1, 1) := by decide +kernel
theorem ld_730 : decode (mB 231) 730 = .ok (.iadd, 1) := by decide +kernel
theorem ld_731 : decode (mB 231) 731 = .ok (.iaload, 1) := by decide +kernel
