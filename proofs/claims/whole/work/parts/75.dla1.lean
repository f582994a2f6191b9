theorem d_La_law_447 : decode m_law.2.1 447 = .ok (.iaload, 1) := by decide +kernel
theorem d_La_law_448 : decode m_law.2.1 448 = .ok (.invokevirtual 56, 3) := by decide +kernel
theorem d_La_law_451 : decode m_law.2.1 451 = .ok (.aload_n 2, 1) := by decide +kernel
theorem d_La_law_452 : decode m_law.2.1 452 = .ok (.aload_n 0, 1) := by decide +kernel
theorem d_La_law_453 : decode m_law.2.1 453 = .ok (.iload_n 3, 1) := by decide +kernel
theorem d_La_law_454 : decode m_law.2.1 454 = .ok (.iconst 1, 1) := by decide +kernel
theorem d_La_law_455 : decode m_law.2.1 455 = .ok (.iadd, 1) := by decide +kernel
theorem d_La_law_456 : decode m_law.2.1 456 = .ok (.iaload, 1) := by decide +kernel
theorem d_La_law_457 : decode m_law.2.1 457 = .ok (.invokevirtual 59, 3) := by decide +kernel
theorem d_La_law_460 : decode m_law.2.1 460 = .ok (.if_icmp .eq 790, 3) := by decide +kernel
theorem d_La_law_463 : decode m_law.2.1 463 = .ok (.iconst 0, 1) := by decide +kernel
theorem d_La_law_464 : decode m_law.2.1 464 = .ok (.ireturn, 1) := by decide +kernel
theorem d_La_law_465 : decode m_law.2.1 465 = .ok (.aload_n 1, 1) := by decide +kernel
theorem d_La_law_466 : decode m_law.2.1 466 = .ok (.aload_n 0, 1) := by decide +kernel
theorem d_La_law_467 : decode m_law.2.1 467 = .ok (.iload_n 3, 1) := by decide +kernel
theorem d_La_law_468 : decode m_law.2.1 468 = .ok (.iconst 1, 1) := by decide +kernel
theorem d_La_law_469 : decode m_law.2.1 469 = .ok (.iadd, 1) := by decide +kernel
theorem d_La_law_470 : decode m_law.2.1 470 = .ok (.iaload, 1) := by decide +kernel
theorem d_La_law_471 : decode m_law.2.1 471 = .ok (.invokevirtual 60, 3) := by decide +kernel
theorem d_La_law_474 : decode m_law.2.1 474 = .ok (.aload_n 2, 1) := by decide +kernel
theorem d_La_law_475 : decode m_law.2.1 475 = .ok (.aload_n 0, 1) := by decide +kernel
theorem d_La_law_476 : decode m_law.2.1 476 = .ok (.iload_n 3, 1) := by decide +kernel
theorem d_La_law_477 : decode m_law.2.1 477 = .ok (.iconst 1, 1) := by decide +kernel
theorem d_La_law_478 : decode m_law.2.1 478 = .ok (.iadd, 1) := by decide +kernel
theorem d_La_law_479 : decode m_law.2.1 479 = .ok (.iaload, 1) := by decide +kernel
theorem d_La_law_480 : decode m_law.2.1 480 = .ok (.invokevirtual 63, 3) := by decide +kernel
theorem d_La_law_483 : decode m_law.2.1 483 = .ok (.if_icmp .eq 767, 3) := by decide +kernel
theorem d_La_law_486 : decode m_law.2.1 486 = .ok (.iconst 0, 1) := by decide +kernel
theorem d_La_law_487 : decode m_law.2.1 487 = .ok (.ireturn, 1) := by decide +kernel
theorem d_La_law_488 : decode m_law.2.1 488 = .ok (.aload_n 1, 1) := by decide +kernel
theorem d_La_law_489 : decode m_law.2.1 489 = .ok (.invokevirtual 64, 3) := by decide +kernel
theorem d_La_law_492 : decode m_law.2.1 492 = .ok (.aload_n 2, 1) := by decide +kernel
theorem d_La_law_493 : decode m_law.2.1 493 = .ok (.invokevirtual 67, 3) := by decide +kernel
theorem d_La_law_496 : decode m_law.2.1 496 = .ok (.if_icmp .eq 754, 3) := by decide +kernel
theorem d_La_law_499 : decode m_law.2.1 499 = .ok (.iconst 0, 1) := by decide +kernel
theorem d_La_law_500 : decode m_law.2.1 500 = .ok (.ireturn, 1) := by decide +kernel
theorem d_La_law_501 : decode m_law.2.1 501 = .ok (.aload_n 1, 1) := by decide +kernel
theorem d_La_law_502 : decode m_law.2.1 502 = .ok (.aload_n 0, 1) := by decide +kernel
theorem d_La_law_503 : decode m_law.2.1 503 = .ok (.iload_n 3, 1) := by decide +kernel
theorem d_La_law_504 : decode m_law.2.1 504 = .ok (.iconst 1, 1) := by decide +kernel
theorem d_La_law_505 : decode m_law.2.1 505 = .ok (.iadd, 1) := by decide +kernel
theorem d_La_law_506 : decode m_law.2.1 506 = .ok (.iaload, 1) := by decide +kernel
theorem d_La_law_507 : decode m_law.2.1 507 = .ok (.invokevirtual 68, 3) := by decide +kernel
theorem d_La_law_510 : decode m_law.2.1 510 = .ok (.aload_n 2, 1) := by decide +kernel
theorem d_La_law_511 : decode m_law.2.1 511 = .ok (.aload_n 0, 1) := by decide +kernel
theorem d_La_law_512 : decode m_law.2.1 512 = .ok (.iload_n 3, 1) := by decide +kernel
theorem d_La_law_513 : decode m_law.2.1 513 = .ok (.iconst 1, 1) := by decide +kernel
theorem d_La_law_514 : decode m_law.2.1 514 = .ok (.iadd, 1) := by decide +kernel
theorem d_La_law_515 : decode m_law.2.1 515 = .ok (.iaload, 1) := by decide +kernel
theorem d_La_law_516 : decode m_law.2.1 516 = .ok (.invokevirtual 71, 3) := by decide +kernel
theorem d_La_law_519 : decode m_law.2.1 519 = .ok (.if_icmp .eq 731, 3) := by decide +kernel
theorem d_La_law_522 : decode m_law.2.1 522 = .ok (.iconst 0, 1) := by decide +kernel
theorem d_La_law_523 : decode m_law.2.1 523 = .ok (.ireturn, 1) := by decide +kernel
theorem d_La_law_524 : decode m_law.2.1 524 = .ok (.aload_n 1, 1) := by decide +kernel
theorem d_La_law_525 : decode m_law.2.1 525 = .ok (.aload_n 0, 1) := by decide +kernel
theorem d_La_law_526 : decode m_law.2.1 526 = .ok (.iload_n 3, 1) := by decide +kernel
theorem d_La_law_527 : decode m_law.2.1 527 = .ok (.iconst 1, 1) := by decide +kernel
theorem d_La_law_528 : decode m_law.2.1 528 = .ok (.iadd, 1) := by decide +kernel
theorem d_La_law_529 : decode m_law.2.1 529 = .ok (.iaload, 1) := by decide +kernel
theorem d_La_law_530 : decode m_law.2.1 530 = .ok (.invokevirtual 72, 3) := by decide +kernel
theorem d_La_law_533 : decode m_law.2.1 533 = .ok (.aload_n 2, 1) := by decide +kernel
theorem d_La_law_534 : decode m_law.2.1 534 = .ok (.aload_n 0, 1) := by decide +kernel
theorem d_La_law_535 : decode m_law.2.1 535 = .ok (.iload_n 3, 1) := by decide +kernel
theorem d_La_law_536 : decode m_law.2.1 536 = .ok (.iconst 1, 1) := by decide +kernel
theorem d_La_law_537 : decode m_law.2.1 537 = .ok (.iadd, 1) := by decide +kernel
theorem d_La_law_538 : decode m_law.2.1 538 = .ok (.iaload, 1) := by decide +kernel
theorem d_La_law_539 : decode m_law.2.1 539 = .ok (.invokevirtual 75, 3) := by decide +kernel
theorem d_La_law_542 : decode m_law.2.1 542 = .ok (.if_icmp .eq 708, 3) := by decide +kernel
theorem d_La_law_545 : decode m_law.2.1 545 = .ok (.iconst 0, 1) := by decide +kernel
theorem d_La_law_546 : decode m_law.2.1 546 = .ok (.ireturn, 1) := by decide +kernel
theorem d_La_law_547 : decode m_law.2.1 547 = .ok (.aload_n 1, 1) := by decide +kernel
theorem d_La_law_548 : decode m_law.2.1 548 = .ok (.aload_n 0, 1) := by decide +kernel
theorem d_La_law_549 : decode m_law.2.1 549 = .ok (.iload_n 3, 1) := by decide +kernel
theorem d_La_law_550 : decode m_law.2.1 550 = .ok (.iconst 1, 1) := by decide +kernel
theorem d_La_law_551 : decode m_law.2.1 551 = .ok (.iadd, 1) := by decide +kernel
theorem d_La_law_552 : decode m_law.2.1 552 = .ok (.iaload, 1) := by decide +kernel
theorem d_La_law_553 : decode m_law.2.1 553 = .ok (.aload_n 0, 1) := by decide +kernel
theorem d_La_law_554 : decode m_law.2.1 554 = .ok (.iload_n 3, 1) := by decide +kernel
theorem d_La_law_555 : decode m_law.2.1 555 = .ok (.iconst 2, 1) := by decide +kernel
theorem d_La_law_556 : decode m_law.2.1 556 = .ok (.iadd, 1) := by decide +kernel
theorem d_La_law_557 : decode m_law.2.1 557 = .ok (.iaload, 1) := by decide +kernel
theorem d_La_law_558 : decode m_law.2.1 558 = .ok (.aload_n 0, 1) := by decide +kernel
theorem d_La_law_559 : decode m_law.2.1 559 = .ok (.iload_n 3, 1) := by decide +kernel
theorem d_La_law_560 : decode m_law.2.1 560 = .ok (.iconst 3, 1) := by decide +kernel
theorem d_La_law_561 : decode m_law.2.1 561 = .ok (.iadd, 1) := by decide +kernel
theorem d_La_law_562 : decode m_law.2.1 562 = .ok (.iaload, 1) := by decide +kernel
theorem d_La_law_563 : decode m_law.2.1 563 = .ok (.invokevirtual 76, 3) := by decide +kernel
theorem d_La_law_566 : decode m_law.2.1 566 = .ok (.aload_n 2, 1) := by decide +kernel
theorem d_La_law_567 : decode m_law.2.1 567 = .ok (.aload_n 0, 1) := by decide +kernel
theorem d_La_law_568 : decode m_law.2.1 568 = .ok (.iload_n 3, 1) := by decide +kernel
theorem d_La_law_569 : decode m_law.2.1 569 = .ok (.iconst 1, 1) := by decide +kernel
theorem d_La_law_570 : decode m_law.2.1 570 = .ok (.iadd, 1) := by decide +kernel
theorem d_La_law_571 : decode m_law.2.1 571 = .ok (.iaload, 1) := by decide +kernel
theorem d_La_law_572 : decode m_law.2.1 572 = .ok (.aload_n 0, 1) := by decide +kernel
theorem d_La_law_573 : decode m_law.2.1 573 = .ok (.iload_n 3, 1) := by decide +kernel
theorem d_La_law_574 : decode m_law.2.1 574 = .ok (.iconst 2, 1) := by decide +kernel
theorem d_La_law_575 : decode m_law.2.1 575 = .ok (.iadd, 1) := by decide +kernel
theorem d_La_law_576 : decode m_law.2.1 576 = .ok (.iaload, 1) := by decide +kernel
theorem d_La_law_577 : decode m_law.2.1 577 = .ok (.aload_n 0, 1) := by decide +kernel
theorem d_La_law_578 : decode m_law.2.1 578 = .ok (.iload_n 3, 1) := by decide +kernel
theorem d_La_law_579 : decode m_law.2.1 579 = .ok (.iconst 3, 1) := by decide +kernel
theorem d_La_law_580 : decode m_law.2.1 580 = .ok (.iadd, 1) := by decide +kernel
theorem d_La_law_581 : decode m_law.2.1 581 = .ok (.iaload, 1) := by decide +kernel
theorem d_La_law_582 : decode m_law.2.1 582 = .ok (.invokevirtual 80, 3) := by decide +kernel
theorem d_La_law_585 : decode m_law.2.1 585 = .ok (.if_icmp .eq 665, 3) := by decide +kernel
theorem d_La_law_588 : decode m_law.2.1 588 = .ok (.iconst 0, 1) := by decide +kernel
theorem d_La_law_589 : decode m_law.2.1 589 = .ok (.ireturn, 1) := by decide +kernel
theorem d_La_law_590 : decode m_law.2.1 590 = .ok (.aload_n 1, 1) := by decide +kernel
theorem d_La_law_591 : decode m_law.2.1 591 = .ok (.aload_n 0, 1) := by decide +kernel
theorem d_La_law_592 : decode m_law.2.1 592 = .ok (.iload_n 3, 1) := by decide +kernel
theorem d_La_law_593 : decode m_law.2.1 593 = .ok (.iconst 1, 1) := by decide +kernel
theorem d_La_law_594 : decode m_law.2.1 594 = .ok (.iadd, 1) := by decide +kernel
theorem d_La_law_595 : decode m_law.2.1 595 = .ok (.iaload, 1) := by decide +kernel
theorem d_La_law_596 : decode m_law.2.1 596 = .ok (.invokevirtual 81, 3) := by decide +kernel
theorem d_La_law_599 : decode m_law.2.1 599 = .ok (.aload_n 2, 1) := by decide +kernel
theorem d_La_law_600 : decode m_law.2.1 600 = .ok (.aload_n 0, 1) := by decide +kernel
theorem d_La_law_601 : decode m_law.2.1 601 = .ok (.iload_n 3, 1) := by decide +kernel
theorem d_La_law_602 : decode m_law.2.1 602 = .ok (.iconst 1, 1) := by decide +kernel
theorem d_La_law_603 : decode m_law.2.1 603 = .ok (.iadd, 1) := by decide +kernel
theorem d_La_law_604 : decode m_law.2.1 604 = .ok (.iaload, 1) := by decide +kernel
theorem d_La_law_605 : decode m_law.2.1 605 = .ok (.invokevirtual 84, 3) := by decide +kernel
theorem d_La_law_608 : decode m_law.2.1 608 = .ok (.if_icmp .eq 642, 3) := by decide +kernel
theorem d_La_law_611 : decode m_law.2.1 611 = .ok (.iconst 0, 1) := by decide +kernel
theorem d_La_law_612 : decode m_law.2.1 612 = .ok (.ireturn, 1) := by decide +kernel
theorem d_La_law_613 : decode m_law.2.1 613 = .ok (.aload_n 1, 1) := by decide +kernel
theorem d_La_law_614 : decode m_law.2.1 614 = .ok (.aload_n 0, 1) := by decide +kernel
theorem d_La_law_615 : decode m_law.2.1 615 = .ok (.iload_n 3, 1) := by decide +kernel
theorem d_La_law_616 : decode m_law.2.1 616 = .ok (.iconst 1, 1) := by decide +kernel
theorem d_La_law_617 : decode m_law.2.1 617 = .ok (.iadd, 1) := by decide +kernel
theorem d_La_law_618 : decode m_law.2.1 618 = .ok (.iaload, 1) := by decide +kernel
theorem d_La_law_619 : decode m_law.2.1 619 = .ok (.invokevirtual 85, 3) := by decide +kernel
theorem d_La_law_622 : decode m_law.2.1 622 = .ok (.aload_n 2, 1) := by decide +kernel
theorem d_La_law_623 : decode m_law.2.1 623 = .ok (.aload_n 0, 1) := by decide +kernel
theorem d_La_law_624 : decode m_law.2.1 624 = .ok (.iload_n 3, 1) := by decide +kernel
theorem d_La_law_625 : decode m_law.2.1 625 = .ok (.iconst 1, 1) := by decide +kernel
theorem d_La_law_626 : decode m_law.2.1 626 = .ok (.iadd, 1) := by decide +kernel
theorem d_La_law_627 : decode m_law.2.1 627 = .ok (.iaload, 1) := by decide +kernel
theorem d_La_law_628 : decode m_law.2.1 628 = .ok (.invokevirtual 88, 3) := by decide +kernel
theorem d_La_law_631 : decode m_law.2.1 631 = .ok (.if_icmp .eq 619, 3) := by decide +kernel
theorem d_La_law_634 : decode m_law.2.1 634 = .ok (.iconst 0, 1) := by decide +kernel
theorem d_La_law_635 : decode m_law.2.1 635 = .ok (.ireturn, 1) := by decide +kernel
theorem d_La_law_636 : decode m_law.2.1 636 = .ok (.aload_n 1, 1) := by decide +kernel
theorem d_La_law_637 : decode m_law.2.1 637 = .ok (.invokevirtual 89, 3) := by decide +kernel
theorem d_La_law_640 : decode m_law.2.1 640 = .ok (.aload_n 2, 1) := by decide +kernel
theorem d_La_law_641 : decode m_law.2.1 641 = .ok (.invokevirtual 92, 3) := by decide +kernel
theorem d_La_law_644 : decode m_law.2.1 644 = .ok (.if_icmp .eq 606, 3) := by decide +kernel
theorem d_La_law_647 : decode m_law.2.1 647 = .ok (.iconst 0, 1) := by decide +kernel
theorem d_La_law_648 : decode m_law.2.1 648 = .ok (.ireturn, 1) := by decide +kernel
theorem d_La_law_649 : decode m_law.2.1 649 = .ok (.aload_n 1, 1) := by decide +kernel
theorem d_La_law_650 : decode m_law.2.1 650 = .ok (.aload_n 0, 1) := by decide +kernel
theorem d_La_law_651 : decode m_law.2.1 651 = .ok (.iload_n 3, 1) := by decide +kernel
theorem d_La_law_652 : decode m_law.2.1 652 = .ok (.iconst 1, 1) := by decide +kernel
theorem d_La_law_653 : decode m_law.2.1 653 = .ok (.iadd, 1) := by decide +kernel
theorem d_La_law_654 : decode m_law.2.1 654 = .ok (.iaload, 1) := by decide +kernel
theorem d_La_law_655 : decode m_law.2.1 655 = .ok (.aload_n 0, 1) := by decide +kernel
theorem d_La_law_656 : decode m_law.2.1 656 = .ok (.iload_n 3, 1) := by decide +kernel
theorem d_La_law_657 : decode m_law.2.1 657 = .ok (.iconst 2, 1) := by decide +kernel
theorem d_La_law_658 : decode m_law.2.1 658 = .ok (.iadd, 1) := by decide +kernel
theorem d_La_law_659 : decode m_law.2.1 659 = .ok (.iaload, 1) := by decide +kernel
theorem d_La_law_660 : decode m_law.2.1 660 = .ok (.aload_n 0, 1) := by decide +kernel
theorem d_La_law_661 : decode m_law.2.1 661 = .ok (.iload_n 3, 1) := by decide +kernel
theorem d_La_law_662 : decode m_law.2.1 662 = .ok (.iconst 3, 1) := by decide +kernel
theorem d_La_law_663 : decode m_law.2.1 663 = .ok (.iadd, 1) := by decide +kernel
theorem d_La_law_664 : decode m_law.2.1 664 = .ok (.iaload, 1) := by decide +kernel
theorem d_La_law_665 : decode m_law.2.1 665 = .ok (.invokevirtual 93, 3) := by decide +kernel
theorem d_La_law_668 : decode m_law.2.1 668 = .ok (.aload_n 2, 1) := by decide +kernel
theorem d_La_law_669 : decode m_law.2.1 669 = .ok (.aload_n 0, 1) := by decide +kernel
theorem d_La_law_670 : decode m_law.2.1 670 = .ok (.iload_n 3, 1) := by decide +kernel
theorem d_La_law_671 : decode m_law.2.1 671 = .ok (.iconst 1, 1) := by decide +kernel
theorem d_La_law_672 : decode m_law.2.1 672 = .ok (.iadd, 1) := by decide +kernel
theorem d_La_law_673 : decode m_law.2.1 673 = .ok (.iaload, 1) := by decide +kernel
theorem d_La_law_674 : decode m_law.2.1 674 = .ok (.aload_n 0, 1) := by decide +kernel
theorem d_La_law_675 : decode m_law.2.1 675 = .ok (.iload_n 3, 1) := by decide +kernel
theorem d_La_law_676 : decode m_law.2.1 676 = .ok (.iconst 2, 1) := by decide +kernel
theorem d_La_law_677 : decode m_law.2.1 677 = .ok (.iadd, 1) := by decide +kernel
theorem d_La_law_678 : decode m_law.2.1 678 = .ok (.iaload, 1) := by decide +kernel
theorem d_La_law_679 : decode m_law.2.1 679 = .ok (.aload_n 0, 1) := by decide +kernel
theorem d_La_law_680 : decode m_law.2.1 680 = .ok (.iload_n 3, 1) := by decide +kernel
theorem d_La_law_681 : decode m_law.2.1 681 = .ok (.iconst 3, 1) := by decide +kernel
theorem d_La_law_682 : decode m_law.2.1 682 = .ok (.iadd, 1) := by decide +kernel
theorem d_La_law_683 : decode m_law.2.1 683 = .ok (.iaload, 1) := by decide +kernel
theorem d_La_law_684 : decode m_law.2.1 684 = .ok (.invokevirtual 96, 3) := by decide +kernel
theorem d_La_law_687 : decode m_law.2.1 687 = .ok (.if_icmp .eq 563, 3) := by decide +kernel
theorem d_La_law_690 : decode m_law.2.1 690 = .ok (.iconst 0, 1) := by decide +kernel
theorem d_La_law_691 : decode m_law.2.1 691 = .ok (.ireturn, 1) := by decide +kernel
theorem d_La_law_692 : decode m_law.2.1 692 = .ok (.aload_n 1, 1) := by decide +kernel
theorem d_La_law_693 : decode m_law.2.1 693 = .ok (.aload_n 0, 1) := by decide +kernel
theorem d_La_law_694 : decode m_law.2.1 694 = .ok (.iload_n 3, 1) := by decide +kernel
theorem d_La_law_695 : decode m_law.2.1 695 = .ok (.iconst 1, 1) := by decide +kernel
theorem d_La_law_696 : decode m_law.2.1 696 = .ok (.iadd, 1) := by decide +kernel
theorem d_La_law_697 : decode m_law.2.1 697 = .ok (.iaload, 1) := by decide +kernel
theorem d_La_law_698 : decode m_law.2.1 698 = .ok (.aload_n 0, 1) := by decide +kernel
theorem d_La_law_699 : decode m_law.2.1 699 = .ok (.iload_n 3, 1) := by decide +kernel
theorem d_La_law_700 : decode m_law.2.1 700 = .ok (.iconst 2, 1) := by decide +kernel
theorem d_La_law_701 : decode m_law.2.1 701 = .ok (.iadd, 1) := by decide +kernel
theorem d_La_law_702 : decode m_law.2.1 702 = .ok (.iaload, 1) := by decide +kernel
theorem d_La_law_703 : decode m_law.2.1 703 = .ok (.invokevirtual 97, 3) := by decide +kernel
theorem d_La_law_706 : decode m_law.2.1 706 = .ok (.aload_n 2, 1) := by decide +kernel
theorem d_La_law_707 : decode m_law.2.1 707 = .ok (.aload_n 0, 1) := by decide +kernel
theorem d_La_law_708 : decode m_law.2.1 708 = .ok (.iload_n 3, 1) := by decide +kernel
theorem d_La_law_709 : decode m_law.2.1 709 = .ok (.iconst 1, 1) := by decide +kernel
theorem d_La_law_710 : decode m_law.2.1 710 = .ok (.iadd, 1) := by decide +kernel
theorem d_La_law_711 : decode m_law.2.1 711 = .ok (.iaload, 1) := by decide +kernel
theorem d_La_law_712 : decode m_law.2.1 712 = .ok (.aload_n 0, 1) := by decide +kernel
theorem d_La_law_713 : decode m_law.2.1 713 = .ok (.iload_n 3, 1) := by decide +kernel
theorem d_La_law_714 : decode m_law.2.1 714 = .ok (.iconst 2, 1) := by decide +kernel
theorem d_La_law_715 : decode m_law.2.1 715 = .ok (.iadd, 1) := by decide +kernel
theorem d_La_law_716 : decode m_law.2.1 716 = .ok (.iaload, 1) := by decide +kernel
theorem d_La_law_717 : decode m_law.2.1 717 = .ok (.invokevirtual 100, 3) := by decide +kernel
theorem d_La_law_720 : decode m_law.2.1 720 = .ok (.if_icmp .eq 530, 3) := by decide +kernel
theorem d_La_law_723 : decode m_law.2.1 723 = .ok (.iconst 0, 1) := by decide +kernel
theorem d_La_law_724 : decode m_law.2.1 724 = .ok (.ireturn, 1) := by decide +kernel
theorem d_La_law_725 : decode m_law.2.1 725 = .ok (.aload_n 1, 1) := by decide +kernel
theorem d_La_law_726 : decode m_law.2.1 726 = .ok (.invokevirtual 101, 3) := by decide +kernel
theorem d_La_law_729 : decode m_law.2.1 729 = .ok (.aload_n 2, 1) := by decide +kernel
theorem d_La_law_730 : decode m_law.2.1 730 = .ok (.invokevirtual 104, 3) := by decide +kernel
theorem d_La_law_733 : decode m_law.2.1 733 = .ok (.if_icmp .eq 517, 3) := by decide +kernel
