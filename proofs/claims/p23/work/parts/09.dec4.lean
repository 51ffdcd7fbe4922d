theorem dL_acts_420 : decode cL_acts 420 = .ok (.iconst 3, 1) := by decide +kernel
theorem dL_acts_421 : decode cL_acts 421 = .ok (.iload 10, 2) := by decide +kernel
theorem dL_acts_423 : decode cL_acts 423 = .ok (.imul, 1) := by decide +kernel
theorem dL_acts_424 : decode cL_acts 424 = .ok (.iconst 1, 1) := by decide +kernel
theorem dL_acts_425 : decode cL_acts 425 = .ok (.iastore, 1) := by decide +kernel
theorem dL_acts_426 : decode cL_acts 426 = .ok (.aload_n 3, 1) := by decide +kernel
theorem dL_acts_427 : decode cL_acts 427 = .ok (.iconst 3, 1) := by decide +kernel
theorem dL_acts_428 : decode cL_acts 428 = .ok (.iload 10, 2) := by decide +kernel
theorem dL_acts_430 : decode cL_acts 430 = .ok (.imul, 1) := by decide +kernel
theorem dL_acts_431 : decode cL_acts 431 = .ok (.iconst 1, 1) := by decide +kernel
theorem dL_acts_432 : decode cL_acts 432 = .ok (.iadd, 1) := by decide +kernel
theorem dL_acts_433 : decode cL_acts 433 = .ok (.iload 8, 2) := by decide +kernel
theorem dL_acts_435 : decode cL_acts 435 = .ok (.iastore, 1) := by decide +kernel
theorem dL_acts_436 : decode cL_acts 436 = .ok (.aload_n 3, 1) := by decide +kernel
theorem dL_acts_437 : decode cL_acts 437 = .ok (.iconst 3, 1) := by decide +kernel
theorem dL_acts_438 : decode cL_acts 438 = .ok (.iload 10, 2) := by decide +kernel
theorem dL_acts_440 : decode cL_acts 440 = .ok (.imul, 1) := by decide +kernel
theorem dL_acts_441 : decode cL_acts 441 = .ok (.iconst 2, 1) := by decide +kernel
theorem dL_acts_442 : decode cL_acts 442 = .ok (.iadd, 1) := by decide +kernel
theorem dL_acts_443 : decode cL_acts 443 = .ok (.iload 9, 2) := by decide +kernel
theorem dL_acts_445 : decode cL_acts 445 = .ok (.iastore, 1) := by decide +kernel
theorem dL_acts_446 : decode cL_acts 446 = .ok (.aload_n 1, 1) := by decide +kernel
theorem dL_acts_447 : decode cL_acts 447 = .ok (.iconst 1, 1) := by decide +kernel
theorem dL_acts_448 : decode cL_acts 448 = .ok (.dup2, 1) := by decide +kernel
theorem dL_acts_449 : decode cL_acts 449 = .ok (.iaload, 1) := by decide +kernel
theorem dL_acts_450 : decode cL_acts 450 = .ok (.iconst 1, 1) := by decide +kernel
theorem dL_acts_451 : decode cL_acts 451 = .ok (.iadd, 1) := by decide +kernel
theorem dL_acts_452 : decode cL_acts 452 = .ok (.iastore, 1) := by decide +kernel
theorem dL_acts_453 : decode cL_acts 453 = .ok (.aload_n 0, 1) := by decide +kernel
theorem dL_acts_454 : decode cL_acts 454 = .ok (.iload 8, 2) := by decide +kernel
theorem dL_acts_456 : decode cL_acts 456 = .ok (.iload 9, 2) := by decide +kernel
theorem dL_acts_458 : decode cL_acts 458 = .ok (.invokevirtual 65, 3) := by decide +kernel
theorem dL_acts_461 : decode cL_acts 461 = .ok (.iload 10, 2) := by decide +kernel
theorem dL_acts_463 : decode cL_acts 463 = .ok (.if_icmp .ne 7, 3) := by decide +kernel
theorem dL_acts_466 : decode cL_acts 466 = .ok (.iconst 1, 1) := by decide +kernel
theorem dL_acts_467 : decode cL_acts 467 = .ok (.goto 4, 3) := by decide +kernel
theorem dL_acts_470 : decode cL_acts 470 = .ok (.iconst 0, 1) := by decide +kernel
theorem dL_acts_471 : decode cL_acts 471 = .ok (.ireturn, 1) := by decide +kernel
theorem dL_acts_472 : decode cL_acts 472 = .ok (.iload 7, 2) := by decide +kernel
theorem dL_acts_474 : decode cL_acts 474 = .ok (.bipush 16, 2) := by decide +kernel
theorem dL_acts_476 : decode cL_acts 476 = .ok (.if_icmp .ge 316, 3) := by decide +kernel
theorem dL_acts_479 : decode cL_acts 479 = .ok (.iload 6, 2) := by decide +kernel
theorem dL_acts_481 : decode cL_acts 481 = .ok (.iconst 4, 1) := by decide +kernel
theorem dL_acts_482 : decode cL_acts 482 = .ok (.irem, 1) := by decide +kernel
theorem dL_acts_483 : decode cL_acts 483 = .ok (.ifCond .ne 13, 3) := by decide +kernel
theorem dL_acts_486 : decode cL_acts 486 = .ok (.iload 6, 2) := by decide +kernel
theorem dL_acts_488 : decode cL_acts 488 = .ok (.iconst 4, 1) := by decide +kernel
theorem dL_acts_489 : decode cL_acts 489 = .ok (.idiv, 1) := by decide +kernel
theorem dL_acts_490 : decode cL_acts 490 = .ok (.bipush 100, 2) := by decide +kernel
theorem dL_acts_492 : decode cL_acts 492 = .ok (.irem, 1) := by decide +kernel
theorem dL_acts_493 : decode cL_acts 493 = .ok (.goto 17, 3) := by decide +kernel
theorem dL_acts_496 : decode cL_acts 496 = .ok (.aload_n 1, 1) := by decide +kernel
theorem dL_acts_497 : decode cL_acts 497 = .ok (.aload 4, 2) := by decide +kernel
theorem dL_acts_499 : decode cL_acts 499 = .ok (.iload 6, 2) := by decide +kernel
theorem dL_acts_501 : decode cL_acts 501 = .ok (.iconst 4, 1) := by decide +kernel
theorem dL_acts_502 : decode cL_acts 502 = .ok (.idiv, 1) := by decide +kernel
theorem dL_acts_503 : decode cL_acts 503 = .ok (.aload_n 1, 1) := by decide +kernel
theorem dL_acts_504 : decode cL_acts 504 = .ok (.iconst 0, 1) := by decide +kernel
theorem dL_acts_505 : decode cL_acts 505 = .ok (.iaload, 1) := by decide +kernel
theorem dL_acts_506 : decode cL_acts 506 = .ok (.irem, 1) := by decide +kernel
theorem dL_acts_507 : decode cL_acts 507 = .ok (.invokestatic 69, 3) := by decide +kernel
theorem dL_acts_510 : decode cL_acts 510 = .ok (.istore 8, 2) := by decide +kernel
theorem dL_acts_512 : decode cL_acts 512 = .ok (.iconst 1, 1) := by decide +kernel
theorem dL_acts_513 : decode cL_acts 513 = .ok (.iload 6, 2) := by decide +kernel
theorem dL_acts_515 : decode cL_acts 515 = .ok (.bipush 48, 2) := by decide +kernel
theorem dL_acts_517 : decode cL_acts 517 = .ok (.idiv, 1) := by decide +kernel
theorem dL_acts_518 : decode cL_acts 518 = .ok (.bipush 99, 2) := by decide +kernel
theorem dL_acts_520 : decode cL_acts 520 = .ok (.irem, 1) := by decide +kernel
theorem dL_acts_521 : decode cL_acts 521 = .ok (.iadd, 1) := by decide +kernel
theorem dL_acts_522 : decode cL_acts 522 = .ok (.istore 9, 2) := by decide +kernel
theorem dL_acts_524 : decode cL_acts 524 = .ok (.bipush 12, 2) := by decide +kernel
theorem dL_acts_526 : decode cL_acts 526 = .ok (.newarray .int, 2) := by decide +kernel
theorem dL_acts_528 : decode cL_acts 528 = .ok (.astore 10, 2) := by decide +kernel
theorem dL_acts_530 : decode cL_acts 530 = .ok (.iconst 0, 1) := by decide +kernel
theorem dL_acts_531 : decode cL_acts 531 = .ok (.istore 11, 2) := by decide +kernel
theorem dL_acts_533 : decode cL_acts 533 = .ok (.iload 11, 2) := by decide +kernel
theorem dL_acts_535 : decode cL_acts 535 = .ok (.aload_n 1, 1) := by decide +kernel
theorem dL_acts_536 : decode cL_acts 536 = .ok (.iconst 0, 1) := by decide +kernel
theorem dL_acts_537 : decode cL_acts 537 = .ok (.iaload, 1) := by decide +kernel
theorem dL_acts_538 : decode cL_acts 538 = .ok (.if_icmp .ge 75, 3) := by decide +kernel
theorem dL_acts_541 : decode cL_acts 541 = .ok (.aload_n 1, 1) := by decide +kernel
theorem dL_acts_542 : decode cL_acts 542 = .ok (.aload 4, 2) := by decide +kernel
theorem dL_acts_544 : decode cL_acts 544 = .ok (.iload 11, 2) := by decide +kernel
theorem dL_acts_546 : decode cL_acts 546 = .ok (.invokestatic 69, 3) := by decide +kernel
theorem dL_acts_549 : decode cL_acts 549 = .ok (.iload 8, 2) := by decide +kernel
theorem dL_acts_551 : decode cL_acts 551 = .ok (.if_icmp .ge 17, 3) := by decide +kernel
theorem dL_acts_554 : decode cL_acts 554 = .ok (.iload 8, 2) := by decide +kernel
theorem dL_acts_556 : decode cL_acts 556 = .ok (.aload_n 1, 1) := by decide +kernel
theorem dL_acts_557 : decode cL_acts 557 = .ok (.aload 4, 2) := by decide +kernel
theorem dL_acts_559 : decode cL_acts 559 = .ok (.iload 11, 2) := by decide +kernel
theorem dL_acts_561 : decode cL_acts 561 = .ok (.invokestatic 69, 3) := by decide +kernel
theorem dL_acts_564 : decode cL_acts 564 = .ok (.isub, 1) := by decide +kernel
theorem dL_acts_565 : decode cL_acts 565 = .ok (.goto 14, 3) := by decide +kernel
theorem dL_acts_568 : decode cL_acts 568 = .ok (.aload_n 1, 1) := by decide +kernel
theorem dL_acts_569 : decode cL_acts 569 = .ok (.aload 4, 2) := by decide +kernel
theorem dL_acts_571 : decode cL_acts 571 = .ok (.iload 11, 2) := by decide +kernel
theorem dL_acts_573 : decode cL_acts 573 = .ok (.invokestatic 69, 3) := by decide +kernel
theorem dL_acts_576 : decode cL_acts 576 = .ok (.iload 8, 2) := by decide +kernel
theorem dL_acts_578 : decode cL_acts 578 = .ok (.isub, 1) := by decide +kernel
theorem dL_acts_579 : decode cL_acts 579 = .ok (.istore 12, 2) := by decide +kernel
theorem dL_acts_581 : decode cL_acts 581 = .ok (.aload 10, 2) := by decide +kernel
theorem dL_acts_583 : decode cL_acts 583 = .ok (.iload 11, 2) := by decide +kernel
theorem dL_acts_585 : decode cL_acts 585 = .ok (.iload 12, 2) := by decide +kernel
theorem dL_acts_587 : decode cL_acts 587 = .ok (.iload 9, 2) := by decide +kernel
theorem dL_acts_589 : decode cL_acts 589 = .ok (.if_icmp .ge 16, 3) := by decide +kernel
theorem dL_acts_592 : decode cL_acts 592 = .ok (.iload 9, 2) := by decide +kernel
theorem dL_acts_594 : decode cL_acts 594 = .ok (.iload 12, 2) := by decide +kernel
theorem dL_acts_596 : decode cL_acts 596 = .ok (.isub, 1) := by decide +kernel
theorem dL_acts_597 : decode cL_acts 597 = .ok (.aload_n 2, 1) := by decide +kernel
theorem dL_acts_598 : decode cL_acts 598 = .ok (.iload 11, 2) := by decide +kernel
theorem dL_acts_600 : decode cL_acts 600 = .ok (.iaload, 1) := by decide +kernel
theorem dL_acts_601 : decode cL_acts 601 = .ok (.imul, 1) := by decide +kernel
theorem dL_acts_602 : decode cL_acts 602 = .ok (.goto 4, 3) := by decide +kernel
theorem dL_acts_605 : decode cL_acts 605 = .ok (.iconst 0, 1) := by decide +kernel
theorem dL_acts_606 : decode cL_acts 606 = .ok (.iastore, 1) := by decide +kernel
theorem dL_acts_607 : decode cL_acts 607 = .ok (.iinc 11 1, 3) := by decide +kernel
theorem dL_acts_610 : decode cL_acts 610 = .ok (.goto (-77), 3) := by decide +kernel
theorem dL_acts_613 : decode cL_acts 613 = .ok (.aload_n 1, 1) := by decide +kernel
theorem dL_acts_614 : decode cL_acts 614 = .ok (.aload 10, 2) := by decide +kernel
theorem dL_acts_616 : decode cL_acts 616 = .ok (.invokestatic 62, 3) := by decide +kernel
theorem dL_acts_619 : decode cL_acts 619 = .ok (.istore 11, 2) := by decide +kernel
theorem dL_acts_621 : decode cL_acts 621 = .ok (.iload 11, 2) := by decide +kernel
theorem dL_acts_623 : decode cL_acts 623 = .ok (.ifCond .ne 22, 3) := by decide +kernel
theorem dL_acts_626 : decode cL_acts 626 = .ok (.aload_n 0, 1) := by decide +kernel
theorem dL_acts_627 : decode cL_acts 627 = .ok (.iload 8, 2) := by decide +kernel
theorem dL_acts_629 : decode cL_acts 629 = .ok (.iload 9, 2) := by decide +kernel
theorem dL_acts_631 : decode cL_acts 631 = .ok (.invokevirtual 73, 3) := by decide +kernel
theorem dL_acts_634 : decode cL_acts 634 = .ok (.ldc 61, 2) := by decide +kernel
theorem dL_acts_636 : decode cL_acts 636 = .ok (.if_icmp .ne 7, 3) := by decide +kernel
theorem dL_acts_639 : decode cL_acts 639 = .ok (.iconst 1, 1) := by decide +kernel
theorem dL_acts_640 : decode cL_acts 640 = .ok (.goto 4, 3) := by decide +kernel
theorem dL_acts_643 : decode cL_acts 643 = .ok (.iconst 0, 1) := by decide +kernel
theorem dL_acts_644 : decode cL_acts 644 = .ok (.ireturn, 1) := by decide +kernel
theorem dL_acts_645 : decode cL_acts 645 = .ok (.iload 11, 2) := by decide +kernel
theorem dL_acts_647 : decode cL_acts 647 = .ok (.ldc 76, 2) := by decide +kernel
theorem dL_acts_649 : decode cL_acts 649 = .ok (.if_icmp .gt 23, 3) := by decide +kernel
theorem dL_acts_652 : decode cL_acts 652 = .ok (.aload_n 1, 1) := by decide +kernel
theorem dL_acts_653 : decode cL_acts 653 = .ok (.iconst 1, 1) := by decide +kernel
theorem dL_acts_654 : decode cL_acts 654 = .ok (.iaload, 1) := by decide +kernel
theorem dL_acts_655 : decode cL_acts 655 = .ok (.bipush 20, 2) := by decide +kernel
theorem dL_acts_657 : decode cL_acts 657 = .ok (.if_icmp .ne 34, 3) := by decide +kernel
theorem dL_acts_660 : decode cL_acts 660 = .ok (.aload_n 1, 1) := by decide +kernel
theorem dL_acts_661 : decode cL_acts 661 = .ok (.aload 10, 2) := by decide +kernel
theorem dL_acts_663 : decode cL_acts 663 = .ok (.invokestatic 77, 3) := by decide +kernel
theorem dL_acts_666 : decode cL_acts 666 = .ok (.aload_n 1, 1) := by decide +kernel
theorem dL_acts_667 : decode cL_acts 667 = .ok (.iconst 5, 1) := by decide +kernel
theorem dL_acts_668 : decode cL_acts 668 = .ok (.iaload, 1) := by decide +kernel
theorem dL_acts_669 : decode cL_acts 669 = .ok (.if_icmp .ge 22, 3) := by decide +kernel
theorem dL_acts_672 : decode cL_acts 672 = .ok (.aload_n 0, 1) := by decide +kernel
theorem dL_acts_673 : decode cL_acts 673 = .ok (.iload 8, 2) := by decide +kernel
theorem dL_acts_675 : decode cL_acts 675 = .ok (.iload 9, 2) := by decide +kernel
theorem dL_acts_677 : decode cL_acts 677 = .ok (.invokevirtual 73, 3) := by decide +kernel
theorem dL_acts_680 : decode cL_acts 680 = .ok (.ldc 68, 2) := by decide +kernel
theorem dL_acts_682 : decode cL_acts 682 = .ok (.if_icmp .ne 7, 3) := by decide +kernel
theorem dL_acts_685 : decode cL_acts 685 = .ok (.iconst 1, 1) := by decide +kernel
theorem dL_acts_686 : decode cL_acts 686 = .ok (.goto 4, 3) := by decide +kernel
theorem dL_acts_689 : decode cL_acts 689 = .ok (.iconst 0, 1) := by decide +kernel
theorem dL_acts_690 : decode cL_acts 690 = .ok (.ireturn, 1) := by decide +kernel
theorem dL_acts_691 : decode cL_acts 691 = .ok (.iconst 0, 1) := by decide +kernel
theorem dL_acts_692 : decode cL_acts 692 = .ok (.istore 12, 2) := by decide +kernel
theorem dL_acts_694 : decode cL_acts 694 = .ok (.iload 12, 2) := by decide +kernel
theorem dL_acts_696 : decode cL_acts 696 = .ok (.aload_n 1, 1) := by decide +kernel
theorem dL_acts_697 : decode cL_acts 697 = .ok (.iconst 0, 1) := by decide +kernel
theorem dL_acts_698 : decode cL_acts 698 = .ok (.iaload, 1) := by decide +kernel
theorem dL_acts_699 : decode cL_acts 699 = .ok (.if_icmp .ge 18, 3) := by decide +kernel
theorem dL_acts_702 : decode cL_acts 702 = .ok (.aload_n 2, 1) := by decide +kernel
theorem dL_acts_703 : decode cL_acts 703 = .ok (.iload 12, 2) := by decide +kernel
theorem dL_acts_705 : decode cL_acts 705 = .ok (.aload 10, 2) := by decide +kernel
theorem dL_acts_707 : decode cL_acts 707 = .ok (.iload 12, 2) := by decide +kernel
theorem dL_acts_709 : decode cL_acts 709 = .ok (.iaload, 1) := by decide +kernel
theorem dL_acts_710 : decode cL_acts 710 = .ok (.iastore, 1) := by decide +kernel
theorem dL_acts_711 : decode cL_acts 711 = .ok (.iinc 12 1, 3) := by decide +kernel
theorem dL_acts_714 : decode cL_acts 714 = .ok (.goto (-20), 3) := by decide +kernel
theorem dL_acts_717 : decode cL_acts 717 = .ok (.aload_n 1, 1) := by decide +kernel
theorem dL_acts_718 : decode cL_acts 718 = .ok (.aload_n 2, 1) := by decide +kernel
theorem dL_acts_719 : decode cL_acts 719 = .ok (.invokestatic 77, 3) := by decide +kernel
theorem dL_acts_722 : decode cL_acts 722 = .ok (.istore 12, 2) := by decide +kernel
theorem dL_acts_724 : decode cL_acts 724 = .ok (.aload_n 1, 1) := by decide +kernel
theorem dL_acts_725 : decode cL_acts 725 = .ok (.iconst 3, 1) := by decide +kernel
theorem dL_acts_726 : decode cL_acts 726 = .ok (.dup2, 1) := by decide +kernel
theorem dL_acts_727 : decode cL_acts 727 = .ok (.iaload, 1) := by decide +kernel
theorem dL_acts_728 : decode cL_acts 728 = .ok (.iconst 1, 1) := by decide +kernel
theorem dL_acts_729 : decode cL_acts 729 = .ok (.iadd, 1) := by decide +kernel
theorem dL_acts_730 : decode cL_acts 730 = .ok (.iastore, 1) := by decide +kernel
theorem dL_acts_731 : decode cL_acts 731 = .ok (.iload 12, 2) := by decide +kernel
theorem dL_acts_733 : decode cL_acts 733 = .ok (.aload_n 1, 1) := by decide +kernel
theorem dL_acts_734 : decode cL_acts 734 = .ok (.iconst 5, 1) := by decide +kernel
theorem dL_acts_735 : decode cL_acts 735 = .ok (.iaload, 1) := by decide +kernel
theorem dL_acts_736 : decode cL_acts 736 = .ok (.if_icmp .ge 37, 3) := by decide +kernel
theorem dL_acts_739 : decode cL_acts 739 = .ok (.aload_n 1, 1) := by decide +kernel
theorem dL_acts_740 : decode cL_acts 740 = .ok (.aload_n 2, 1) := by decide +kernel
theorem dL_acts_741 : decode cL_acts 741 = .ok (.aload_n 3, 1) := by decide +kernel
theorem dL_acts_742 : decode cL_acts 742 = .ok (.aload 4, 2) := by decide +kernel
theorem dL_acts_744 : decode cL_acts 744 = .ok (.invokestatic 80, 3) := by decide +kernel
theorem dL_acts_747 : decode cL_acts 747 = .ok (.istore 13, 2) := by decide +kernel
theorem dL_acts_749 : decode cL_acts 749 = .ok (.aload_n 0, 1) := by decide +kernel
theorem dL_acts_750 : decode cL_acts 750 = .ok (.iload 8, 2) := by decide +kernel
theorem dL_acts_752 : decode cL_acts 752 = .ok (.iload 9, 2) := by decide +kernel
theorem dL_acts_754 : decode cL_acts 754 = .ok (.invokevirtual 73, 3) := by decide +kernel
theorem dL_acts_757 : decode cL_acts 757 = .ok (.iload 12, 2) := by decide +kernel
theorem dL_acts_759 : decode cL_acts 759 = .ok (.if_icmp .ne 12, 3) := by decide +kernel
theorem dL_acts_762 : decode cL_acts 762 = .ok (.iload 13, 2) := by decide +kernel
theorem dL_acts_764 : decode cL_acts 764 = .ok (.ifCond .le 7, 3) := by decide +kernel
theorem dL_acts_767 : decode cL_acts 767 = .ok (.iconst 1, 1) := by decide +kernel
theorem dL_acts_768 : decode cL_acts 768 = .ok (.goto 4, 3) := by decide +kernel
theorem dL_acts_771 : decode cL_acts 771 = .ok (.iconst 0, 1) := by decide +kernel
theorem dL_acts_772 : decode cL_acts 772 = .ok (.ireturn, 1) := by decide +kernel
theorem dL_acts_773 : decode cL_acts 773 = .ok (.aload_n 0, 1) := by decide +kernel
theorem dL_acts_774 : decode cL_acts 774 = .ok (.iload 8, 2) := by decide +kernel
theorem dL_acts_776 : decode cL_acts 776 = .ok (.iload 9, 2) := by decide +kernel
theorem dL_acts_778 : decode cL_acts 778 = .ok (.invokevirtual 73, 3) := by decide +kernel
theorem dL_acts_781 : decode cL_acts 781 = .ok (.iload 12, 2) := by decide +kernel
theorem dL_acts_783 : decode cL_acts 783 = .ok (.if_icmp .ne 7, 3) := by decide +kernel
theorem dL_acts_786 : decode cL_acts 786 = .ok (.iconst 1, 1) := by decide +kernel
theorem dL_acts_787 : decode cL_acts 787 = .ok (.goto 4, 3) := by decide +kernel
theorem dL_acts_790 : decode cL_acts 790 = .ok (.iconst 0, 1) := by decide +kernel
theorem dL_acts_791 : decode cL_acts 791 = .ok (.ireturn, 1) := by decide +kernel
theorem dL_acts_792 : decode cL_acts 792 = .ok (.iload 7, 2) := by decide +kernel
theorem dL_acts_794 : decode cL_acts 794 = .ok (.bipush 19, 2) := by decide +kernel
theorem dL_acts_796 : decode cL_acts 796 = .ok (.if_icmp .ge 51, 3) := by decide +kernel
theorem dL_acts_799 : decode cL_acts 799 = .ok (.aload_n 1, 1) := by decide +kernel
theorem dL_acts_800 : decode cL_acts 800 = .ok (.iconst 1, 1) := by decide +kernel
theorem dL_acts_801 : decode cL_acts 801 = .ok (.iaload, 1) := by decide +kernel
theorem dL_acts_802 : decode cL_acts 802 = .ok (.bipush 20, 2) := by decide +kernel
theorem dL_acts_804 : decode cL_acts 804 = .ok (.if_icmp .ne 18, 3) := by decide +kernel
theorem dL_acts_807 : decode cL_acts 807 = .ok (.aload_n 0, 1) := by decide +kernel
theorem dL_acts_808 : decode cL_acts 808 = .ok (.invokevirtual 84, 3) := by decide +kernel
theorem dL_acts_811 : decode cL_acts 811 = .ok (.ldc 68, 2) := by decide +kernel
theorem dL_acts_813 : decode cL_acts 813 = .ok (.if_icmp .ne 7, 3) := by decide +kernel
theorem dL_acts_816 : decode cL_acts 816 = .ok (.iconst 1, 1) := by decide +kernel
theorem dL_acts_817 : decode cL_acts 817 = .ok (.goto 4, 3) := by decide +kernel
theorem dL_acts_820 : decode cL_acts 820 = .ok (.iconst 0, 1) := by decide +kernel
theorem dL_acts_821 : decode cL_acts 821 = .ok (.ireturn, 1) := by decide +kernel
theorem dL_acts_822 : decode cL_acts 822 = .ok (.aload_n 1, 1) := by decide +kernel
theorem dL_acts_823 : decode cL_acts 823 = .ok (.aload_n 2, 1) := by decide +kernel
theorem dL_acts_824 : decode cL_acts 824 = .ok (.aload_n 3, 1) := by decide +kernel
theorem dL_acts_825 : decode cL_acts 825 = .ok (.aload 4, 2) := by decide +kernel
theorem dL_acts_827 : decode cL_acts 827 = .ok (.invokestatic 80, 3) := by decide +kernel
theorem dL_acts_830 : decode cL_acts 830 = .ok (.istore 8, 2) := by decide +kernel
theorem dL_acts_832 : decode cL_acts 832 = .ok (.aload_n 0, 1) := by decide +kernel
theorem dL_acts_833 : decode cL_acts 833 = .ok (.invokevirtual 84, 3) := by decide +kernel
theorem dL_acts_836 : decode cL_acts 836 = .ok (.iload 8, 2) := by decide +kernel
theorem dL_acts_838 : decode cL_acts 838 = .ok (.if_icmp .ne 7, 3) := by decide +kernel
theorem dL_acts_841 : decode cL_acts 841 = .ok (.iconst 1, 1) := by decide +kernel
theorem dL_acts_842 : decode cL_acts 842 = .ok (.goto 4, 3) := by decide +kernel
theorem dL_acts_845 : decode cL_acts 845 = .ok (.iconst 0, 1) := by decide +kernel
theorem dL_acts_846 : decode cL_acts 846 = .ok (.ireturn, 1) := by decide +kernel
theorem dL_acts_847 : decode cL_acts 847 = .ok (.iload 6, 2) := by decide +kernel
theorem dL_acts_849 : decode cL_acts 849 = .ok (.iconst 3, 1) := by decide +kernel
theorem dL_acts_850 : decode cL_acts 850 = .ok (.irem, 1) := by decide +kernel
theorem dL_acts_851 : decode cL_acts 851 = .ok (.istore 8, 2) := by decide +kernel
theorem dL_acts_853 : decode cL_acts 853 = .ok (.aload_n 1, 1) := by decide +kernel
theorem dL_acts_854 : decode cL_acts 854 = .ok (.iconst 5, 1) := by decide +kernel
theorem dL_acts_855 : decode cL_acts 855 = .ok (.iload 8, 2) := by decide +kernel
theorem dL_acts_857 : decode cL_acts 857 = .ok (.iadd, 1) := by decide +kernel
theorem dL_acts_858 : decode cL_acts 858 = .ok (.iaload, 1) := by decide +kernel
theorem dL_acts_859 : decode cL_acts 859 = .ok (.istore 9, 2) := by decide +kernel
theorem dL_acts_861 : decode cL_acts 861 = .ok (.aload_n 1, 1) := by decide +kernel
theorem dL_acts_862 : decode cL_acts 862 = .ok (.iconst 5, 1) := by decide +kernel
theorem dL_acts_863 : decode cL_acts 863 = .ok (.iload 8, 2) := by decide +kernel
theorem dL_acts_865 : decode cL_acts 865 = .ok (.iadd, 1) := by decide +kernel
theorem dL_acts_866 : decode cL_acts 866 = .ok (.iload 6, 2) := by decide +kernel
theorem dL_acts_868 : decode cL_acts 868 = .ok (.iconst 3, 1) := by decide +kernel
theorem dL_acts_869 : decode cL_acts 869 = .ok (.idiv, 1) := by decide +kernel
theorem dL_acts_870 : decode cL_acts 870 = .ok (.iload 8, 2) := by decide +kernel
theorem dL_acts_872 : decode cL_acts 872 = .ok (.ifCond .ne 8, 3) := by decide +kernel
theorem dL_acts_875 : decode cL_acts 875 = .ok (.bipush 13, 2) := by decide +kernel
theorem dL_acts_877 : decode cL_acts 877 = .ok (.goto 15, 3) := by decide +kernel
theorem dL_acts_880 : decode cL_acts 880 = .ok (.iload 8, 2) := by decide +kernel
theorem dL_acts_882 : decode cL_acts 882 = .ok (.iconst 1, 1) := by decide +kernel
theorem dL_acts_883 : decode cL_acts 883 = .ok (.if_icmp .ne 7, 3) := by decide +kernel
theorem dL_acts_886 : decode cL_acts 886 = .ok (.iconst 3, 1) := by decide +kernel
theorem dL_acts_887 : decode cL_acts 887 = .ok (.goto 5, 3) := by decide +kernel
theorem dL_acts_890 : decode cL_acts 890 = .ok (.bipush 100, 2) := by decide +kernel
theorem dL_acts_892 : decode cL_acts 892 = .ok (.irem, 1) := by decide +kernel
theorem dL_acts_893 : decode cL_acts 893 = .ok (.iastore, 1) := by decide +kernel
theorem dL_acts_894 : decode cL_acts 894 = .ok (.aload_n 0, 1) := by decide +kernel
theorem dL_acts_895 : decode cL_acts 895 = .ok (.iload 8, 2) := by decide +kernel
theorem dL_acts_897 : decode cL_acts 897 = .ok (.aload_n 1, 1) := by decide +kernel
theorem dL_acts_898 : decode cL_acts 898 = .ok (.iconst 5, 1) := by decide +kernel
theorem dL_acts_899 : decode cL_acts 899 = .ok (.iload 8, 2) := by decide +kernel
theorem dL_acts_901 : decode cL_acts 901 = .ok (.iadd, 1) := by decide +kernel
theorem dL_acts_902 : decode cL_acts 902 = .ok (.iaload, 1) := by decide +kernel
theorem dL_acts_903 : decode cL_acts 903 = .ok (.invokevirtual 88, 3) := by decide +kernel
theorem dL_acts_906 : decode cL_acts 906 = .ok (.iload 9, 2) := by decide +kernel
theorem dL_acts_908 : decode cL_acts 908 = .ok (.if_icmp .ne 7, 3) := by decide +kernel
theorem dL_acts_911 : decode cL_acts 911 = .ok (.iconst 1, 1) := by decide +kernel
theorem dL_acts_912 : decode cL_acts 912 = .ok (.goto 4, 3) := by decide +kernel
theorem dL_acts_915 : decode cL_acts 915 = .ok (.iconst 0, 1) := by decide +kernel
theorem dL_acts_916 : decode cL_acts 916 = .ok (.ireturn, 1) := by decide +kernel
theorem dL_isSo_0 : decode cL_isSo 0 = .ok (.aload_n 1, 1) := by decide +kernel
theorem dL_isSo_1 : decode cL_isSo 1 = .ok (.iconst 0, 1) := by decide +kernel
theorem dL_isSo_2 : decode cL_isSo 2 = .ok (.iaload, 1) := by decide +kernel
theorem dL_isSo_3 : decode cL_isSo 3 = .ok (.istore 5, 2) := by decide +kernel
theorem dL_isSo_5 : decode cL_isSo 5 = .ok (.aload_n 1, 1) := by decide +kernel
theorem dL_isSo_6 : decode cL_isSo 6 = .ok (.aload_n 2, 1) := by decide +kernel
theorem dL_isSo_7 : decode cL_isSo 7 = .ok (.invokestatic 24, 3) := by decide +kernel
theorem dL_isSo_10 : decode cL_isSo 10 = .ok (.istore 6, 2) := by decide +kernel
theorem dL_isSo_12 : decode cL_isSo 12 = .ok (.iconst 0, 1) := by decide +kernel
theorem dL_isSo_13 : decode cL_isSo 13 = .ok (.istore 7, 2) := by decide +kernel
theorem dL_isSo_15 : decode cL_isSo 15 = .ok (.iconst 0, 1) := by decide +kernel
theorem dL_isSo_16 : decode cL_isSo 16 = .ok (.istore 8, 2) := by decide +kernel
theorem dL_isSo_18 : decode cL_isSo 18 = .ok (.iconst 0, 1) := by decide +kernel
theorem dL_isSo_19 : decode cL_isSo 19 = .ok (.istore 9, 2) := by decide +kernel
theorem dL_isSo_21 : decode cL_isSo 21 = .ok (.iconst 1, 1) := by decide +kernel
theorem dL_isSo_22 : decode cL_isSo 22 = .ok (.istore 10, 2) := by decide +kernel
theorem dL_isSo_24 : decode cL_isSo 24 = .ok (.iconst 0, 1) := by decide +kernel
theorem dL_isSo_25 : decode cL_isSo 25 = .ok (.istore 11, 2) := by decide +kernel
theorem dL_isSo_27 : decode cL_isSo 27 = .ok (.iload 11, 2) := by decide +kernel
theorem dL_isSo_29 : decode cL_isSo 29 = .ok (.iload 5, 2) := by decide +kernel
theorem dL_isSo_31 : decode cL_isSo 31 = .ok (.if_icmp .ge 417, 3) := by decide +kernel
theorem dL_isSo_34 : decode cL_isSo 34 = .ok (.iload 10, 2) := by decide +kernel
theorem dL_isSo_36 : decode cL_isSo 36 = .ok (.ifCond .eq 412, 3) := by decide +kernel
theorem dL_isSo_39 : decode cL_isSo 39 = .ok (.iconst 0, 1) := by decide +kernel
theorem dL_isSo_40 : decode cL_isSo 40 = .ok (.istore 12, 2) := by decide +kernel
theorem dL_isSo_42 : decode cL_isSo 42 = .ok (.iconst 0, 1) := by decide +kernel
theorem dL_isSo_43 : decode cL_isSo 43 = .ok (.istore 13, 2) := by decide +kernel
theorem dL_isSo_45 : decode cL_isSo 45 = .ok (.iconst 1, 1) := by decide +kernel
theorem dL_isSo_46 : decode cL_isSo 46 = .ok (.istore 14, 2) := by decide +kernel
theorem dL_isSo_48 : decode cL_isSo 48 = .ok (.iconst 0, 1) := by decide +kernel
theorem dL_isSo_49 : decode cL_isSo 49 = .ok (.istore 15, 2) := by decide +kernel
theorem dL_isSo_51 : decode cL_isSo 51 = .ok (.iload 15, 2) := by decide +kernel
theorem dL_isSo_53 : decode cL_isSo 53 = .ok (.iload 5, 2) := by decide +kernel
theorem dL_isSo_55 : decode cL_isSo 55 = .ok (.if_icmp .ge 115, 3) := by decide +kernel
theorem dL_isSo_58 : decode cL_isSo 58 = .ok (.iload 12, 2) := by decide +kernel
theorem dL_isSo_60 : decode cL_isSo 60 = .ok (.aload_n 1, 1) := by decide +kernel
theorem dL_isSo_61 : decode cL_isSo 61 = .ok (.aload 4, 2) := by decide +kernel
theorem dL_isSo_63 : decode cL_isSo 63 = .ok (.iload 15, 2) := by decide +kernel
theorem dL_isSo_65 : decode cL_isSo 65 = .ok (.invokestatic 69, 3) := by decide +kernel
theorem dL_isSo_68 : decode cL_isSo 68 = .ok (.aload_n 1, 1) := by decide +kernel
theorem dL_isSo_69 : decode cL_isSo 69 = .ok (.aload 4, 2) := by decide +kernel
theorem dL_isSo_71 : decode cL_isSo 71 = .ok (.iload 11, 2) := by decide +kernel
theorem dL_isSo_73 : decode cL_isSo 73 = .ok (.invokestatic 69, 3) := by decide +kernel
theorem dL_isSo_76 : decode cL_isSo 76 = .ok (.if_icmp .ne 7, 3) := by decide +kernel
theorem dL_isSo_79 : decode cL_isSo 79 = .ok (.iconst 1, 1) := by decide +kernel
theorem dL_isSo_80 : decode cL_isSo 80 = .ok (.goto 4, 3) := by decide +kernel
theorem dL_isSo_83 : decode cL_isSo 83 = .ok (.iconst 0, 1) := by decide +kernel
theorem dL_isSo_84 : decode cL_isSo 84 = .ok (.iadd, 1) := by decide +kernel
theorem dL_isSo_85 : decode cL_isSo 85 = .ok (.istore 12, 2) := by decide +kernel
theorem dL_isSo_87 : decode cL_isSo 87 = .ok (.iload 14, 2) := by decide +kernel
theorem dL_isSo_89 : decode cL_isSo 89 = .ok (.ifCond .eq 33, 3) := by decide +kernel
theorem dL_isSo_92 : decode cL_isSo 92 = .ok (.iload 15, 2) := by decide +kernel
theorem dL_isSo_94 : decode cL_isSo 94 = .ok (.iload 11, 2) := by decide +kernel
theorem dL_isSo_96 : decode cL_isSo 96 = .ok (.if_icmp .ge 22, 3) := by decide +kernel
theorem dL_isSo_99 : decode cL_isSo 99 = .ok (.aload_n 1, 1) := by decide +kernel
theorem dL_isSo_100 : decode cL_isSo 100 = .ok (.aload 4, 2) := by decide +kernel
theorem dL_isSo_102 : decode cL_isSo 102 = .ok (.iload 15, 2) := by decide +kernel
theorem dL_isSo_104 : decode cL_isSo 104 = .ok (.invokestatic 69, 3) := by decide +kernel
theorem dL_isSo_107 : decode cL_isSo 107 = .ok (.aload_n 1, 1) := by decide +kernel
theorem dL_isSo_108 : decode cL_isSo 108 = .ok (.aload 4, 2) := by decide +kernel
theorem dL_isSo_110 : decode cL_isSo 110 = .ok (.iload 11, 2) := by decide +kernel
theorem dL_isSo_112 : decode cL_isSo 112 = .ok (.invokestatic 69, 3) := by decide +kernel
theorem dL_isSo_115 : decode cL_isSo 115 = .ok (.if_icmp .eq 7, 3) := by decide +kernel
theorem dL_isSo_118 : decode cL_isSo 118 = .ok (.iconst 1, 1) := by decide +kernel
theorem dL_isSo_119 : decode cL_isSo 119 = .ok (.goto 4, 3) := by decide +kernel
theorem dL_isSo_122 : decode cL_isSo 122 = .ok (.iconst 0, 1) := by decide +kernel
theorem dL_isSo_123 : decode cL_isSo 123 = .ok (.istore 14, 2) := by decide +kernel
theorem dL_isSo_125 : decode cL_isSo 125 = .ok (.iload 13, 2) := by decide +kernel
theorem dL_isSo_127 : decode cL_isSo 127 = .ok (.aload_n 2, 1) := by decide +kernel
theorem dL_isSo_128 : decode cL_isSo 128 = .ok (.iload 15, 2) := by decide +kernel
theorem dL_isSo_130 : decode cL_isSo 130 = .ok (.iaload, 1) := by decide +kernel
theorem dL_isSo_131 : decode cL_isSo 131 = .ok (.aload_n 2, 1) := by decide +kernel
theorem dL_isSo_132 : decode cL_isSo 132 = .ok (.iload 11, 2) := by decide +kernel
theorem dL_isSo_134 : decode cL_isSo 134 = .ok (.iaload, 1) := by decide +kernel
theorem dL_isSo_135 : decode cL_isSo 135 = .ok (.if_icmp .gt 21, 3) := by decide +kernel
theorem dL_isSo_138 : decode cL_isSo 138 = .ok (.aload_n 2, 1) := by decide +kernel
theorem dL_isSo_139 : decode cL_isSo 139 = .ok (.iload 15, 2) := by decide +kernel
theorem dL_isSo_141 : decode cL_isSo 141 = .ok (.iaload, 1) := by decide +kernel
theorem dL_isSo_142 : decode cL_isSo 142 = .ok (.aload_n 2, 1) := by decide +kernel
theorem dL_isSo_143 : decode cL_isSo 143 = .ok (.iload 11, 2) := by decide +kernel
theorem dL_isSo_145 : decode cL_isSo 145 = .ok (.iaload, 1) := by decide +kernel
theorem dL_isSo_146 : decode cL_isSo 146 = .ok (.if_icmp .ne 14, 3) := by decide +kernel
theorem dL_isSo_149 : decode cL_isSo 149 = .ok (.iload 15, 2) := by decide +kernel
theorem dL_isSo_151 : decode cL_isSo 151 = .ok (.iload 11, 2) := by decide +kernel
theorem dL_isSo_153 : decode cL_isSo 153 = .ok (.if_icmp .ge 7, 3) := by decide +kernel
theorem dL_isSo_156 : decode cL_isSo 156 = .ok (.iconst 1, 1) := by decide +kernel
theorem dL_isSo_157 : decode cL_isSo 157 = .ok (.goto 4, 3) := by decide +kernel
theorem dL_isSo_160 : decode cL_isSo 160 = .ok (.iconst 0, 1) := by decide +kernel
theorem dL_isSo_161 : decode cL_isSo 161 = .ok (.iadd, 1) := by decide +kernel
theorem dL_isSo_162 : decode cL_isSo 162 = .ok (.istore 13, 2) := by decide +kernel
theorem dL_isSo_164 : decode cL_isSo 164 = .ok (.iinc 15 1, 3) := by decide +kernel
theorem dL_isSo_167 : decode cL_isSo 167 = .ok (.goto (-116), 3) := by decide +kernel
theorem dL_isSo_170 : decode cL_isSo 170 = .ok (.iload 7, 2) := by decide +kernel
theorem dL_isSo_172 : decode cL_isSo 172 = .ok (.aload_n 2, 1) := by decide +kernel
theorem dL_isSo_173 : decode cL_isSo 173 = .ok (.iload 11, 2) := by decide +kernel
theorem dL_isSo_175 : decode cL_isSo 175 = .ok (.iaload, 1) := by decide +kernel
theorem dL_isSo_176 : decode cL_isSo 176 = .ok (.ifCond .ne 7, 3) := by decide +kernel
theorem dL_isSo_179 : decode cL_isSo 179 = .ok (.iconst 1, 1) := by decide +kernel
theorem dL_isSo_180 : decode cL_isSo 180 = .ok (.goto 4, 3) := by decide +kernel
theorem dL_isSo_183 : decode cL_isSo 183 = .ok (.iconst 0, 1) := by decide +kernel
theorem dL_isSo_184 : decode cL_isSo 184 = .ok (.iadd, 1) := by decide +kernel
theorem dL_isSo_185 : decode cL_isSo 185 = .ok (.istore 7, 2) := by decide +kernel
theorem dL_isSo_187 : decode cL_isSo 187 = .ok (.iload 8, 2) := by decide +kernel
theorem dL_isSo_189 : decode cL_isSo 189 = .ok (.iload 14, 2) := by decide +kernel
theorem dL_isSo_191 : decode cL_isSo 191 = .ok (.ifCond .eq 7, 3) := by decide +kernel
theorem dL_isSo_194 : decode cL_isSo 194 = .ok (.iconst 1, 1) := by decide +kernel
theorem dL_isSo_195 : decode cL_isSo 195 = .ok (.goto 4, 3) := by decide +kernel
theorem dL_isSo_198 : decode cL_isSo 198 = .ok (.iconst 0, 1) := by decide +kernel
theorem dL_isSo_199 : decode cL_isSo 199 = .ok (.iadd, 1) := by decide +kernel
theorem dL_isSo_200 : decode cL_isSo 200 = .ok (.istore 8, 2) := by decide +kernel
theorem dL_isSo_202 : decode cL_isSo 202 = .ok (.aload_n 0, 1) := by decide +kernel
theorem dL_isSo_203 : decode cL_isSo 203 = .ok (.iload 11, 2) := by decide +kernel
theorem dL_isSo_205 : decode cL_isSo 205 = .ok (.iconst 4, 1) := by decide +kernel
theorem dL_isSo_206 : decode cL_isSo 206 = .ok (.invokevirtual 91, 3) := by decide +kernel
theorem dL_isSo_209 : decode cL_isSo 209 = .ok (.istore 15, 2) := by decide +kernel
theorem dL_isSo_211 : decode cL_isSo 211 = .ok (.aload_n 0, 1) := by decide +kernel
theorem dL_isSo_212 : decode cL_isSo 212 = .ok (.iload 11, 2) := by decide +kernel
theorem dL_isSo_214 : decode cL_isSo 214 = .ok (.iconst 5, 1) := by decide +kernel
theorem dL_isSo_215 : decode cL_isSo 215 = .ok (.invokevirtual 91, 3) := by decide +kernel
theorem dL_isSo_218 : decode cL_isSo 218 = .ok (.istore 16, 2) := by decide +kernel
theorem dL_isSo_220 : decode cL_isSo 220 = .ok (.aload 4, 2) := by decide +kernel
theorem dL_isSo_222 : decode cL_isSo 222 = .ok (.aload_n 1, 1) := by decide +kernel
theorem dL_isSo_223 : decode cL_isSo 223 = .ok (.iconst 1, 1) := by decide +kernel
theorem dL_isSo_224 : decode cL_isSo 224 = .ok (.iaload, 1) := by decide +kernel
theorem dL_isSo_225 : decode cL_isSo 225 = .ok (.iconst 1, 1) := by decide +kernel
theorem dL_isSo_226 : decode cL_isSo 226 = .ok (.isub, 1) := by decide +kernel
theorem dL_isSo_227 : decode cL_isSo 227 = .ok (.iload 11, 2) := by decide +kernel
theorem dL_isSo_229 : decode cL_isSo 229 = .ok (.invokestatic 13, 3) := by decide +kernel
theorem dL_isSo_232 : decode cL_isSo 232 = .ok (.sipush 256, 3) := by decide +kernel
theorem dL_isSo_235 : decode cL_isSo 235 = .ok (.idiv, 1) := by decide +kernel
theorem dL_isSo_236 : decode cL_isSo 236 = .ok (.istore 17, 2) := by decide +kernel
theorem dL_isSo_238 : decode cL_isSo 238 = .ok (.aload_n 0, 1) := by decide +kernel
theorem dL_isSo_239 : decode cL_isSo 239 = .ok (.iload 11, 2) := by decide +kernel
theorem dL_isSo_241 : decode cL_isSo 241 = .ok (.iconst 0, 1) := by decide +kernel
theorem dL_isSo_242 : decode cL_isSo 242 = .ok (.invokevirtual 91, 3) := by decide +kernel
theorem dL_isSo_245 : decode cL_isSo 245 = .ok (.aload_n 1, 1) := by decide +kernel
theorem dL_isSo_246 : decode cL_isSo 246 = .ok (.aload 4, 2) := by decide +kernel
theorem dL_isSo_248 : decode cL_isSo 248 = .ok (.iload 11, 2) := by decide +kernel
theorem dL_isSo_250 : decode cL_isSo 250 = .ok (.invokestatic 69, 3) := by decide +kernel
theorem dL_isSo_253 : decode cL_isSo 253 = .ok (.if_icmp .ne 115, 3) := by decide +kernel
theorem dL_isSo_256 : decode cL_isSo 256 = .ok (.aload_n 0, 1) := by decide +kernel
theorem dL_isSo_257 : decode cL_isSo 257 = .ok (.iload 11, 2) := by decide +kernel
theorem dL_isSo_259 : decode cL_isSo 259 = .ok (.iconst 1, 1) := by decide +kernel
theorem dL_isSo_260 : decode cL_isSo 260 = .ok (.invokevirtual 91, 3) := by decide +kernel
theorem dL_isSo_263 : decode cL_isSo 263 = .ok (.aload_n 2, 1) := by decide +kernel
theorem dL_isSo_264 : decode cL_isSo 264 = .ok (.iload 11, 2) := by decide +kernel
theorem dL_isSo_266 : decode cL_isSo 266 = .ok (.iaload, 1) := by decide +kernel
theorem dL_isSo_267 : decode cL_isSo 267 = .ok (.if_icmp .ne 101, 3) := by decide +kernel
theorem dL_isSo_270 : decode cL_isSo 270 = .ok (.aload_n 0, 1) := by decide +kernel
theorem dL_isSo_271 : decode cL_isSo 271 = .ok (.iload 11, 2) := by decide +kernel
theorem dL_isSo_273 : decode cL_isSo 273 = .ok (.iconst 2, 1) := by decide +kernel
theorem dL_isSo_274 : decode cL_isSo 274 = .ok (.invokevirtual 91, 3) := by decide +kernel
theorem dL_isSo_277 : decode cL_isSo 277 = .ok (.iload 17, 2) := by decide +kernel
theorem dL_isSo_279 : decode cL_isSo 279 = .ok (.bipush 15, 2) := by decide +kernel
theorem dL_isSo_281 : decode cL_isSo 281 = .ok (.if_icmp .ne 8, 3) := by decide +kernel
theorem dL_isSo_284 : decode cL_isSo 284 = .ok (.ldc 94, 2) := by decide +kernel
theorem dL_isSo_286 : decode cL_isSo 286 = .ok (.goto 5, 3) := by decide +kernel
theorem dL_isSo_289 : decode cL_isSo 289 = .ok (.iload 17, 2) := by decide +kernel
theorem dL_isSo_291 : decode cL_isSo 291 = .ok (.if_icmp .ne 77, 3) := by decide +kernel
theorem dL_isSo_294 : decode cL_isSo 294 = .ok (.aload_n 0, 1) := by decide +kernel
theorem dL_isSo_295 : decode cL_isSo 295 = .ok (.iload 11, 2) := by decide +kernel
theorem dL_isSo_297 : decode cL_isSo 297 = .ok (.iconst 3, 1) := by decide +kernel
theorem dL_isSo_298 : decode cL_isSo 298 = .ok (.invokevirtual 91, 3) := by decide +kernel
theorem dL_isSo_301 : decode cL_isSo 301 = .ok (.iload 12, 2) := by decide +kernel
theorem dL_isSo_303 : decode cL_isSo 303 = .ok (.if_icmp .ne 65, 3) := by decide +kernel
theorem dL_isSo_306 : decode cL_isSo 306 = .ok (.iload 16, 2) := by decide +kernel
theorem dL_isSo_308 : decode cL_isSo 308 = .ok (.ifCond .le 60, 3) := by decide +kernel
theorem dL_isSo_311 : decode cL_isSo 311 = .ok (.iload 6, 2) := by decide +kernel
theorem dL_isSo_313 : decode cL_isSo 313 = .ok (.iload 16, 2) := by decide +kernel
theorem dL_isSo_315 : decode cL_isSo 315 = .ok (.irem, 1) := by decide +kernel
theorem dL_isSo_316 : decode cL_isSo 316 = .ok (.ifCond .ne 52, 3) := by decide +kernel
theorem dL_isSo_319 : decode cL_isSo 319 = .ok (.iload 15, 2) := by decide +kernel
theorem dL_isSo_321 : decode cL_isSo 321 = .ok (.i2l, 1) := by decide +kernel
theorem dL_isSo_322 : decode cL_isSo 322 = .ok (.iload 6, 2) := by decide +kernel
theorem dL_isSo_324 : decode cL_isSo 324 = .ok (.iload 16, 2) := by decide +kernel
theorem dL_isSo_326 : decode cL_isSo 326 = .ok (.idiv, 1) := by decide +kernel
theorem dL_isSo_327 : decode cL_isSo 327 = .ok (.i2l, 1) := by decide +kernel
theorem dL_isSo_328 : decode cL_isSo 328 = .ok (.lmul, 1) := by decide +kernel
theorem dL_isSo_329 : decode cL_isSo 329 = .ok (.aload_n 2, 1) := by decide +kernel
theorem dL_isSo_330 : decode cL_isSo 330 = .ok (.iload 11, 2) := by decide +kernel
theorem dL_isSo_332 : decode cL_isSo 332 = .ok (.iaload, 1) := by decide +kernel
theorem dL_isSo_333 : decode cL_isSo 333 = .ok (.i2l, 1) := by decide +kernel
theorem dL_isSo_334 : decode cL_isSo 334 = .ok (.lcmp, 1) := by decide +kernel
theorem dL_isSo_335 : decode cL_isSo 335 = .ok (.ifCond .ne 33, 3) := by decide +kernel
theorem dL_isSo_338 : decode cL_isSo 338 = .ok (.aload_n 0, 1) := by decide +kernel
theorem dL_isSo_339 : decode cL_isSo 339 = .ok (.iload 11, 2) := by decide +kernel
theorem dL_isSo_341 : decode cL_isSo 341 = .ok (.bipush 6, 2) := by decide +kernel
theorem dL_isSo_343 : decode cL_isSo 343 = .ok (.invokevirtual 91, 3) := by decide +kernel
theorem dL_isSo_346 : decode cL_isSo 346 = .ok (.iload 13, 2) := by decide +kernel
theorem dL_isSo_348 : decode cL_isSo 348 = .ok (.if_icmp .ne 20, 3) := by decide +kernel
theorem dL_isSo_351 : decode cL_isSo 351 = .ok (.aload_n 0, 1) := by decide +kernel
theorem dL_isSo_352 : decode cL_isSo 352 = .ok (.iload 11, 2) := by decide +kernel
theorem dL_isSo_354 : decode cL_isSo 354 = .ok (.bipush 7, 2) := by decide +kernel
theorem dL_isSo_356 : decode cL_isSo 356 = .ok (.invokevirtual 91, 3) := by decide +kernel
theorem dL_isSo_359 : decode cL_isSo 359 = .ok (.ldc 95, 2) := by decide +kernel
theorem dL_isSo_361 : decode cL_isSo 361 = .ok (.if_icmp .ne 7, 3) := by decide +kernel
theorem dL_isSo_364 : decode cL_isSo 364 = .ok (.iconst 1, 1) := by decide +kernel
theorem dL_isSo_365 : decode cL_isSo 365 = .ok (.goto 4, 3) := by decide +kernel
theorem dL_isSo_368 : decode cL_isSo 368 = .ok (.iconst 0, 1) := by decide +kernel
theorem dL_isSo_369 : decode cL_isSo 369 = .ok (.istore 10, 2) := by decide +kernel
theorem dL_isSo_371 : decode cL_isSo 371 = .ok (.iload 15, 2) := by decide +kernel
theorem dL_isSo_373 : decode cL_isSo 373 = .ok (.istore 18, 2) := by decide +kernel
theorem dL_isSo_375 : decode cL_isSo 375 = .ok (.iload 16, 2) := by decide +kernel
theorem dL_isSo_377 : decode cL_isSo 377 = .ok (.istore 19, 2) := by decide +kernel
theorem dL_isSo_379 : decode cL_isSo 379 = .ok (.iload 18, 2) := by decide +kernel
theorem dL_isSo_381 : decode cL_isSo 381 = .ok (.ifCond .le 21, 3) := by decide +kernel
theorem dL_isSo_384 : decode cL_isSo 384 = .ok (.iload 19, 2) := by decide +kernel
theorem dL_isSo_386 : decode cL_isSo 386 = .ok (.iload 18, 2) := by decide +kernel
theorem dL_isSo_388 : decode cL_isSo 388 = .ok (.irem, 1) := by decide +kernel
theorem dL_isSo_389 : decode cL_isSo 389 = .ok (.istore 20, 2) := by decide +kernel
theorem dL_isSo_391 : decode cL_isSo 391 = .ok (.iload 18, 2) := by decide +kernel
theorem dL_isSo_393 : decode cL_isSo 393 = .ok (.istore 19, 2) := by decide +kernel
theorem dL_isSo_395 : decode cL_isSo 395 = .ok (.iload 20, 2) := by decide +kernel
theorem dL_isSo_397 : decode cL_isSo 397 = .ok (.istore 18, 2) := by decide +kernel
theorem dL_isSo_399 : decode cL_isSo 399 = .ok (.goto (-20), 3) := by decide +kernel
theorem dL_isSo_402 : decode cL_isSo 402 = .ok (.iload 10, 2) := by decide +kernel
theorem dL_isSo_404 : decode cL_isSo 404 = .ok (.ifCond .eq 13, 3) := by decide +kernel
theorem dL_isSo_407 : decode cL_isSo 407 = .ok (.iload 19, 2) := by decide +kernel
theorem dL_isSo_409 : decode cL_isSo 409 = .ok (.iconst 1, 1) := by decide +kernel
theorem dL_isSo_410 : decode cL_isSo 410 = .ok (.if_icmp .ne 7, 3) := by decide +kernel
theorem dL_isSo_413 : decode cL_isSo 413 = .ok (.iconst 1, 1) := by decide +kernel
theorem dL_isSo_414 : decode cL_isSo 414 = .ok (.goto 4, 3) := by decide +kernel
theorem dL_isSo_417 : decode cL_isSo 417 = .ok (.iconst 0, 1) := by decide +kernel
theorem dL_isSo_418 : decode cL_isSo 418 = .ok (.istore 10, 2) := by decide +kernel
theorem dL_isSo_420 : decode cL_isSo 420 = .ok (.iload 9, 2) := by decide +kernel
theorem dL_isSo_422 : decode cL_isSo 422 = .ok (.iload 16, 2) := by decide +kernel
theorem dL_isSo_424 : decode cL_isSo 424 = .ok (.ifCond .le 14, 3) := by decide +kernel
theorem dL_isSo_427 : decode cL_isSo 427 = .ok (.iload 6, 2) := by decide +kernel
theorem dL_isSo_429 : decode cL_isSo 429 = .ok (.iload 16, 2) := by decide +kernel
theorem dL_isSo_431 : decode cL_isSo 431 = .ok (.idiv, 1) := by decide +kernel
theorem dL_isSo_432 : decode cL_isSo 432 = .ok (.iload 15, 2) := by decide +kernel
theorem dL_isSo_434 : decode cL_isSo 434 = .ok (.imul, 1) := by decide +kernel
theorem dL_isSo_435 : decode cL_isSo 435 = .ok (.goto 4, 3) := by decide +kernel
theorem dL_isSo_438 : decode cL_isSo 438 = .ok (.iconst 0, 1) := by decide +kernel
theorem dL_isSo_439 : decode cL_isSo 439 = .ok (.iadd, 1) := by decide +kernel
theorem dL_isSo_440 : decode cL_isSo 440 = .ok (.istore 9, 2) := by decide +kernel
theorem dL_isSo_442 : decode cL_isSo 442 = .ok (.iinc 11 1, 3) := by decide +kernel
theorem dL_isSo_445 : decode cL_isSo 445 = .ok (.goto (-418), 3) := by decide +kernel
theorem dL_isSo_448 : decode cL_isSo 448 = .ok (.iload 10, 2) := by decide +kernel
theorem dL_isSo_450 : decode cL_isSo 450 = .ok (.ifCond .eq 126, 3) := by decide +kernel
theorem dL_isSo_453 : decode cL_isSo 453 = .ok (.iload 9, 2) := by decide +kernel
theorem dL_isSo_455 : decode cL_isSo 455 = .ok (.iload 6, 2) := by decide +kernel
theorem dL_isSo_457 : decode cL_isSo 457 = .ok (.if_icmp .ne 119, 3) := by decide +kernel
theorem dL_isSo_460 : decode cL_isSo 460 = .ok (.aload_n 0, 1) := by decide +kernel
theorem dL_isSo_461 : decode cL_isSo 461 = .ok (.iload 5, 2) := by decide +kernel
theorem dL_isSo_463 : decode cL_isSo 463 = .ok (.iconst 0, 1) := by decide +kernel
theorem dL_isSo_464 : decode cL_isSo 464 = .ok (.invokevirtual 91, 3) := by decide +kernel
theorem dL_isSo_467 : decode cL_isSo 467 = .ok (.ldc 95, 2) := by decide +kernel
theorem dL_isSo_469 : decode cL_isSo 469 = .ok (.if_icmp .ne 107, 3) := by decide +kernel
theorem dL_isSo_472 : decode cL_isSo 472 = .ok (.aload_n 0, 1) := by decide +kernel
theorem dL_isSo_473 : decode cL_isSo 473 = .ok (.iconst 0, 1) := by decide +kernel
theorem dL_isSo_474 : decode cL_isSo 474 = .ok (.invokevirtual 96, 3) := by decide +kernel
theorem dL_isSo_477 : decode cL_isSo 477 = .ok (.iload 5, 2) := by decide +kernel
theorem dL_isSo_479 : decode cL_isSo 479 = .ok (.if_icmp .ne 97, 3) := by decide +kernel
theorem dL_isSo_482 : decode cL_isSo 482 = .ok (.aload_n 0, 1) := by decide +kernel
theorem dL_isSo_483 : decode cL_isSo 483 = .ok (.iconst 1, 1) := by decide +kernel
theorem dL_isSo_484 : decode cL_isSo 484 = .ok (.invokevirtual 96, 3) := by decide +kernel
theorem dL_isSo_487 : decode cL_isSo 487 = .ok (.aload_n 1, 1) := by decide +kernel
theorem dL_isSo_488 : decode cL_isSo 488 = .ok (.iconst 1, 1) := by decide +kernel
theorem dL_isSo_489 : decode cL_isSo 489 = .ok (.iaload, 1) := by decide +kernel
theorem dL_isSo_490 : decode cL_isSo 490 = .ok (.if_icmp .ne 86, 3) := by decide +kernel
theorem dL_isSo_493 : decode cL_isSo 493 = .ok (.aload_n 0, 1) := by decide +kernel
theorem dL_isSo_494 : decode cL_isSo 494 = .ok (.iconst 2, 1) := by decide +kernel
theorem dL_isSo_495 : decode cL_isSo 495 = .ok (.invokevirtual 96, 3) := by decide +kernel
theorem dL_isSo_498 : decode cL_isSo 498 = .ok (.iload 6, 2) := by decide +kernel
theorem dL_isSo_500 : decode cL_isSo 500 = .ok (.if_icmp .ne 76, 3) := by decide +kernel
theorem dL_isSo_503 : decode cL_isSo 503 = .ok (.aload_n 0, 1) := by decide +kernel
theorem dL_isSo_504 : decode cL_isSo 504 = .ok (.iconst 3, 1) := by decide +kernel
theorem dL_isSo_505 : decode cL_isSo 505 = .ok (.invokevirtual 96, 3) := by decide +kernel
theorem dL_isSo_508 : decode cL_isSo 508 = .ok (.aload_n 1, 1) := by decide +kernel
theorem dL_isSo_509 : decode cL_isSo 509 = .ok (.aload_n 2, 1) := by decide +kernel
theorem dL_isSo_510 : decode cL_isSo 510 = .ok (.invokestatic 77, 3) := by decide +kernel
theorem dL_isSo_513 : decode cL_isSo 513 = .ok (.if_icmp .ne 63, 3) := by decide +kernel
theorem dL_isSo_516 : decode cL_isSo 516 = .ok (.aload_n 0, 1) := by decide +kernel
theorem dL_isSo_517 : decode cL_isSo 517 = .ok (.iconst 4, 1) := by decide +kernel
theorem dL_isSo_518 : decode cL_isSo 518 = .ok (.invokevirtual 96, 3) := by decide +kernel
theorem dL_isSo_521 : decode cL_isSo 521 = .ok (.aload_n 1, 1) := by decide +kernel
theorem dL_isSo_522 : decode cL_isSo 522 = .ok (.iconst 2, 1) := by decide +kernel
theorem dL_isSo_523 : decode cL_isSo 523 = .ok (.iaload, 1) := by decide +kernel
theorem dL_isSo_524 : decode cL_isSo 524 = .ok (.if_icmp .ne 52, 3) := by decide +kernel
theorem dL_isSo_527 : decode cL_isSo 527 = .ok (.aload_n 0, 1) := by decide +kernel
theorem dL_isSo_528 : decode cL_isSo 528 = .ok (.iconst 5, 1) := by decide +kernel
theorem dL_isSo_529 : decode cL_isSo 529 = .ok (.invokevirtual 96, 3) := by decide +kernel
theorem dL_isSo_532 : decode cL_isSo 532 = .ok (.iload 7, 2) := by decide +kernel
theorem dL_isSo_534 : decode cL_isSo 534 = .ok (.if_icmp .ne 42, 3) := by decide +kernel
theorem dL_isSo_537 : decode cL_isSo 537 = .ok (.aload_n 0, 1) := by decide +kernel
theorem dL_isSo_538 : decode cL_isSo 538 = .ok (.bipush 6, 2) := by decide +kernel
theorem dL_isSo_540 : decode cL_isSo 540 = .ok (.invokevirtual 96, 3) := by decide +kernel
theorem dL_isSo_543 : decode cL_isSo 543 = .ok (.iload 8, 2) := by decide +kernel
theorem dL_isSo_545 : decode cL_isSo 545 = .ok (.if_icmp .ne 31, 3) := by decide +kernel
theorem dL_isSo_548 : decode cL_isSo 548 = .ok (.aload_n 0, 1) := by decide +kernel
theorem dL_isSo_549 : decode cL_isSo 549 = .ok (.bipush 7, 2) := by decide +kernel
theorem dL_isSo_551 : decode cL_isSo 551 = .ok (.invokevirtual 96, 3) := by decide +kernel
theorem dL_isSo_554 : decode cL_isSo 554 = .ok (.aload_n 1, 1) := by decide +kernel
theorem dL_isSo_555 : decode cL_isSo 555 = .ok (.iconst 3, 1) := by decide +kernel
theorem dL_isSo_556 : decode cL_isSo 556 = .ok (.iaload, 1) := by decide +kernel
theorem dL_isSo_557 : decode cL_isSo 557 = .ok (.if_icmp .ne 19, 3) := by decide +kernel
theorem dL_isSo_560 : decode cL_isSo 560 = .ok (.aload_n 0, 1) := by decide +kernel
theorem dL_isSo_561 : decode cL_isSo 561 = .ok (.bipush 8, 2) := by decide +kernel
theorem dL_isSo_563 : decode cL_isSo 563 = .ok (.invokevirtual 96, 3) := by decide +kernel
theorem dL_isSo_566 : decode cL_isSo 566 = .ok (.aload_n 1, 1) := by decide +kernel
theorem dL_isSo_567 : decode cL_isSo 567 = .ok (.iconst 4, 1) := by decide +kernel
theorem dL_isSo_568 : decode cL_isSo 568 = .ok (.iaload, 1) := by decide +kernel
theorem dL_isSo_569 : decode cL_isSo 569 = .ok (.if_icmp .ne 7, 3) := by decide +kernel
theorem dL_isSo_572 : decode cL_isSo 572 = .ok (.iconst 1, 1) := by decide +kernel
theorem dL_isSo_573 : decode cL_isSo 573 = .ok (.goto 4, 3) := by decide +kernel
theorem dL_isSo_576 : decode cL_isSo 576 = .ok (.iconst 0, 1) := by decide +kernel
theorem dL_isSo_577 : decode cL_isSo 577 = .ok (.istore 10, 2) := by decide +kernel
theorem dL_isSo_579 : decode cL_isSo 579 = .ok (.iconst 0, 1) := by decide +kernel
theorem dL_isSo_580 : decode cL_isSo 580 = .ok (.istore 11, 2) := by decide +kernel
theorem dL_isSo_582 : decode cL_isSo 582 = .ok (.iload 11, 2) := by decide +kernel
theorem dL_isSo_584 : decode cL_isSo 584 = .ok (.aload_n 1, 1) := by decide +kernel
theorem dL_isSo_585 : decode cL_isSo 585 = .ok (.iconst 1, 1) := by decide +kernel
theorem dL_isSo_586 : decode cL_isSo 586 = .ok (.iaload, 1) := by decide +kernel
theorem dL_isSo_587 : decode cL_isSo 587 = .ok (.if_icmp .ge 131, 3) := by decide +kernel
theorem dL_isSo_590 : decode cL_isSo 590 = .ok (.iload 10, 2) := by decide +kernel
theorem dL_isSo_592 : decode cL_isSo 592 = .ok (.ifCond .eq 126, 3) := by decide +kernel
theorem dL_isSo_595 : decode cL_isSo 595 = .ok (.aload_n 3, 1) := by decide +kernel
theorem dL_isSo_596 : decode cL_isSo 596 = .ok (.iconst 3, 1) := by decide +kernel
theorem dL_isSo_597 : decode cL_isSo 597 = .ok (.iload 11, 2) := by decide +kernel
theorem dL_isSo_599 : decode cL_isSo 599 = .ok (.imul, 1) := by decide +kernel
theorem dL_isSo_600 : decode cL_isSo 600 = .ok (.iaload, 1) := by decide +kernel
theorem dL_isSo_601 : decode cL_isSo 601 = .ok (.istore 12, 2) := by decide +kernel
theorem dL_isSo_603 : decode cL_isSo 603 = .ok (.aload_n 0, 1) := by decide +kernel
theorem dL_isSo_604 : decode cL_isSo 604 = .ok (.iload 11, 2) := by decide +kernel
theorem dL_isSo_606 : decode cL_isSo 606 = .ok (.iconst 0, 1) := by decide +kernel
theorem dL_isSo_607 : decode cL_isSo 607 = .ok (.invokevirtual 100, 3) := by decide +kernel
theorem dL_isSo_610 : decode cL_isSo 610 = .ok (.iload 12, 2) := by decide +kernel
theorem dL_isSo_612 : decode cL_isSo 612 = .ok (.if_icmp .ne 97, 3) := by decide +kernel
theorem dL_isSo_615 : decode cL_isSo 615 = .ok (.aload_n 0, 1) := by decide +kernel
theorem dL_isSo_616 : decode cL_isSo 616 = .ok (.iload 11, 2) := by decide +kernel
theorem dL_isSo_618 : decode cL_isSo 618 = .ok (.iconst 1, 1) := by decide +kernel
theorem dL_isSo_619 : decode cL_isSo 619 = .ok (.invokevirtual 100, 3) := by decide +kernel
theorem dL_isSo_622 : decode cL_isSo 622 = .ok (.iload 12, 2) := by decide +kernel
theorem dL_isSo_624 : decode cL_isSo 624 = .ok (.iconst 1, 1) := by decide +kernel
theorem dL_isSo_625 : decode cL_isSo 625 = .ok (.if_icmp .ne 17, 3) := by decide +kernel
theorem dL_isSo_628 : decode cL_isSo 628 = .ok (.aload_n 3, 1) := by decide +kernel
theorem dL_isSo_629 : decode cL_isSo 629 = .ok (.iconst 3, 1) := by decide +kernel
theorem dL_isSo_630 : decode cL_isSo 630 = .ok (.iload 11, 2) := by decide +kernel
theorem dL_isSo_632 : decode cL_isSo 632 = .ok (.imul, 1) := by decide +kernel
theorem dL_isSo_633 : decode cL_isSo 633 = .ok (.iconst 1, 1) := by decide +kernel
theorem dL_isSo_634 : decode cL_isSo 634 = .ok (.iadd, 1) := by decide +kernel
theorem dL_isSo_635 : decode cL_isSo 635 = .ok (.iaload, 1) := by decide +kernel
theorem dL_isSo_636 : decode cL_isSo 636 = .ok (.bipush 100, 2) := by decide +kernel
theorem dL_isSo_638 : decode cL_isSo 638 = .ok (.iadd, 1) := by decide +kernel
theorem dL_isSo_639 : decode cL_isSo 639 = .ok (.goto 5, 3) := by decide +kernel
theorem dL_isSo_642 : decode cL_isSo 642 = .ok (.ldc 94, 2) := by decide +kernel
theorem dL_isSo_644 : decode cL_isSo 644 = .ok (.if_icmp .ne 65, 3) := by decide +kernel
theorem dL_isSo_647 : decode cL_isSo 647 = .ok (.aload_n 0, 1) := by decide +kernel
theorem dL_isSo_648 : decode cL_isSo 648 = .ok (.iload 11, 2) := by decide +kernel
theorem dL_isSo_650 : decode cL_isSo 650 = .ok (.iconst 2, 1) := by decide +kernel
theorem dL_isSo_651 : decode cL_isSo 651 = .ok (.invokevirtual 100, 3) := by decide +kernel
theorem dL_isSo_654 : decode cL_isSo 654 = .ok (.iload 12, 2) := by decide +kernel
theorem dL_isSo_656 : decode cL_isSo 656 = .ok (.iconst 1, 1) := by decide +kernel
theorem dL_isSo_657 : decode cL_isSo 657 = .ok (.if_icmp .ne 14, 3) := by decide +kernel
theorem dL_isSo_660 : decode cL_isSo 660 = .ok (.aload_n 3, 1) := by decide +kernel
theorem dL_isSo_661 : decode cL_isSo 661 = .ok (.iconst 3, 1) := by decide +kernel
theorem dL_isSo_662 : decode cL_isSo 662 = .ok (.iload 11, 2) := by decide +kernel
theorem dL_isSo_664 : decode cL_isSo 664 = .ok (.imul, 1) := by decide +kernel
theorem dL_isSo_665 : decode cL_isSo 665 = .ok (.iconst 2, 1) := by decide +kernel
theorem dL_isSo_666 : decode cL_isSo 666 = .ok (.iadd, 1) := by decide +kernel
theorem dL_isSo_667 : decode cL_isSo 667 = .ok (.iaload, 1) := by decide +kernel
theorem dL_isSo_668 : decode cL_isSo 668 = .ok (.goto 5, 3) := by decide +kernel
theorem dL_isSo_671 : decode cL_isSo 671 = .ok (.ldc 94, 2) := by decide +kernel
theorem dL_isSo_673 : decode cL_isSo 673 = .ok (.if_icmp .ne 36, 3) := by decide +kernel
theorem dL_isSo_676 : decode cL_isSo 676 = .ok (.aload_n 0, 1) := by decide +kernel
theorem dL_isSo_677 : decode cL_isSo 677 = .ok (.iload 11, 2) := by decide +kernel
theorem dL_isSo_679 : decode cL_isSo 679 = .ok (.iconst 3, 1) := by decide +kernel
theorem dL_isSo_680 : decode cL_isSo 680 = .ok (.invokevirtual 100, 3) := by decide +kernel
theorem dL_isSo_683 : decode cL_isSo 683 = .ok (.iload 12, 2) := by decide +kernel
theorem dL_isSo_685 : decode cL_isSo 685 = .ok (.iconst 2, 1) := by decide +kernel
theorem dL_isSo_686 : decode cL_isSo 686 = .ok (.if_icmp .ne 14, 3) := by decide +kernel
theorem dL_isSo_689 : decode cL_isSo 689 = .ok (.aload_n 3, 1) := by decide +kernel
theorem dL_isSo_690 : decode cL_isSo 690 = .ok (.iconst 3, 1) := by decide +kernel
theorem dL_isSo_691 : decode cL_isSo 691 = .ok (.iload 11, 2) := by decide +kernel
theorem dL_isSo_693 : decode cL_isSo 693 = .ok (.imul, 1) := by decide +kernel
theorem dL_isSo_694 : decode cL_isSo 694 = .ok (.iconst 2, 1) := by decide +kernel
theorem dL_isSo_695 : decode cL_isSo 695 = .ok (.iadd, 1) := by decide +kernel
theorem dL_isSo_696 : decode cL_isSo 696 = .ok (.iaload, 1) := by decide +kernel
theorem dL_isSo_697 : decode cL_isSo 697 = .ok (.goto 5, 3) := by decide +kernel
theorem dL_isSo_700 : decode cL_isSo 700 = .ok (.ldc 94, 2) := by decide +kernel
theorem dL_isSo_702 : decode cL_isSo 702 = .ok (.if_icmp .ne 7, 3) := by decide +kernel
theorem dL_isSo_705 : decode cL_isSo 705 = .ok (.iconst 1, 1) := by decide +kernel
theorem dL_isSo_706 : decode cL_isSo 706 = .ok (.goto 4, 3) := by decide +kernel
theorem dL_isSo_709 : decode cL_isSo 709 = .ok (.iconst 0, 1) := by decide +kernel
theorem dL_isSo_710 : decode cL_isSo 710 = .ok (.istore 10, 2) := by decide +kernel
theorem dL_isSo_712 : decode cL_isSo 712 = .ok (.iinc 11 1, 3) := by decide +kernel
theorem dL_isSo_715 : decode cL_isSo 715 = .ok (.goto (-133), 3) := by decide +kernel
theorem dL_isSo_718 : decode cL_isSo 718 = .ok (.iload 10, 2) := by decide +kernel
theorem dL_isSo_720 : decode cL_isSo 720 = .ok (.ifCond .eq 67, 3) := by decide +kernel
theorem dL_isSo_723 : decode cL_isSo 723 = .ok (.aload_n 0, 1) := by decide +kernel
theorem dL_isSo_724 : decode cL_isSo 724 = .ok (.aload_n 1, 1) := by decide +kernel
theorem dL_isSo_725 : decode cL_isSo 725 = .ok (.iconst 1, 1) := by decide +kernel
theorem dL_isSo_726 : decode cL_isSo 726 = .ok (.iaload, 1) := by decide +kernel
theorem dL_isSo_727 : decode cL_isSo 727 = .ok (.iconst 0, 1) := by decide +kernel
theorem dL_isSo_728 : decode cL_isSo 728 = .ok (.invokevirtual 100, 3) := by decide +kernel
theorem dL_isSo_731 : decode cL_isSo 731 = .ok (.ldc 95, 2) := by decide +kernel
theorem dL_isSo_733 : decode cL_isSo 733 = .ok (.if_icmp .ne 54, 3) := by decide +kernel
theorem dL_isSo_736 : decode cL_isSo 736 = .ok (.aload_n 0, 1) := by decide +kernel
theorem dL_isSo_737 : decode cL_isSo 737 = .ok (.bipush 20, 2) := by decide +kernel
theorem dL_isSo_739 : decode cL_isSo 739 = .ok (.invokevirtual 96, 3) := by decide +kernel
theorem dL_isSo_742 : decode cL_isSo 742 = .ok (.aload_n 1, 1) := by decide +kernel
theorem dL_isSo_743 : decode cL_isSo 743 = .ok (.iconst 5, 1) := by decide +kernel
theorem dL_isSo_744 : decode cL_isSo 744 = .ok (.iaload, 1) := by decide +kernel
theorem dL_isSo_745 : decode cL_isSo 745 = .ok (.if_icmp .ne 42, 3) := by decide +kernel
theorem dL_isSo_748 : decode cL_isSo 748 = .ok (.aload_n 0, 1) := by decide +kernel
theorem dL_isSo_749 : decode cL_isSo 749 = .ok (.bipush 21, 2) := by decide +kernel
theorem dL_isSo_751 : decode cL_isSo 751 = .ok (.invokevirtual 96, 3) := by decide +kernel
theorem dL_isSo_754 : decode cL_isSo 754 = .ok (.aload_n 1, 1) := by decide +kernel
theorem dL_isSo_755 : decode cL_isSo 755 = .ok (.bipush 6, 2) := by decide +kernel
