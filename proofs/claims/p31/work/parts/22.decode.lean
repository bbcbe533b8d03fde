theorem dL_change_400 : decode cL_change 400 = .ok (.iload 8, 2) := by decide +kernel
theorem dL_change_402 : decode cL_change 402 = .ok (.iload 7, 2) := by decide +kernel
theorem dL_change_404 : decode cL_change 404 = .ok (.if_icmp .ne 7, 3) := by decide +kernel
theorem dL_change_407 : decode cL_change 407 = .ok (.iconst 1, 1) := by decide +kernel
theorem dL_change_408 : decode cL_change 408 = .ok (.goto 4, 3) := by decide +kernel
theorem dL_change_411 : decode cL_change 411 = .ok (.iconst 0, 1) := by decide +kernel
theorem dL_change_412 : decode cL_change 412 = .ok (.istore 9, 2) := by decide +kernel
theorem dL_change_414 : decode cL_change 414 = .ok (.goto 327, 3) := by decide +kernel
theorem dL_change_417 : decode cL_change 417 = .ok (.aload_n 0, 1) := by decide +kernel
theorem dL_change_418 : decode cL_change 418 = .ok (.bipush 12, 2) := by decide +kernel
theorem dL_change_420 : decode cL_change 420 = .ok (.invokevirtual 9, 3) := by decide +kernel
theorem dL_change_423 : decode cL_change 423 = .ok (.istore 7, 2) := by decide +kernel
theorem dL_change_425 : decode cL_change 425 = .ok (.aload_n 0, 1) := by decide +kernel
theorem dL_change_426 : decode cL_change 426 = .ok (.iload_n 3, 1) := by decide +kernel
theorem dL_change_427 : decode cL_change 427 = .ok (.sipush 10000, 3) := by decide +kernel
theorem dL_change_430 : decode cL_change 430 = .ok (.invokestatic 15, 3) := by decide +kernel
theorem dL_change_433 : decode cL_change 433 = .ok (.invokevirtual 42, 3) := by decide +kernel
theorem dL_change_436 : decode cL_change 436 = .ok (.istore 8, 2) := by decide +kernel
theorem dL_change_438 : decode cL_change 438 = .ok (.iload 8, 2) := by decide +kernel
theorem dL_change_440 : decode cL_change 440 = .ok (.iload 7, 2) := by decide +kernel
theorem dL_change_442 : decode cL_change 442 = .ok (.if_icmp .ne 7, 3) := by decide +kernel
theorem dL_change_445 : decode cL_change 445 = .ok (.iconst 1, 1) := by decide +kernel
theorem dL_change_446 : decode cL_change 446 = .ok (.goto 4, 3) := by decide +kernel
theorem dL_change_449 : decode cL_change 449 = .ok (.iconst 0, 1) := by decide +kernel
theorem dL_change_450 : decode cL_change 450 = .ok (.istore 9, 2) := by decide +kernel
theorem dL_change_452 : decode cL_change 452 = .ok (.goto 289, 3) := by decide +kernel
theorem dL_change_455 : decode cL_change 455 = .ok (.aload_n 0, 1) := by decide +kernel
theorem dL_change_456 : decode cL_change 456 = .ok (.iload 6, 2) := by decide +kernel
theorem dL_change_458 : decode cL_change 458 = .ok (.iload_n 3, 1) := by decide +kernel
theorem dL_change_459 : decode cL_change 459 = .ok (.iload 4, 2) := by decide +kernel
theorem dL_change_461 : decode cL_change 461 = .ok (.iconst 1, 1) := by decide +kernel
theorem dL_change_462 : decode cL_change 462 = .ok (.iadd, 1) := by decide +kernel
theorem dL_change_463 : decode cL_change 463 = .ok (.invokestatic 15, 3) := by decide +kernel
theorem dL_change_466 : decode cL_change 466 = .ok (.invokestatic 45, 3) := by decide +kernel
theorem dL_change_469 : decode cL_change 469 = .ok (.ifCond .eq 17, 3) := by decide +kernel
theorem dL_change_472 : decode cL_change 472 = .ok (.aload_n 0, 1) := by decide +kernel
theorem dL_change_473 : decode cL_change 473 = .ok (.bipush 15, 2) := by decide +kernel
theorem dL_change_475 : decode cL_change 475 = .ok (.invokevirtual 9, 3) := by decide +kernel
theorem dL_change_478 : decode cL_change 478 = .ok (.iconst 4, 1) := by decide +kernel
theorem dL_change_479 : decode cL_change 479 = .ok (.if_icmp .gt 7, 3) := by decide +kernel
theorem dL_change_482 : decode cL_change 482 = .ok (.iconst 1, 1) := by decide +kernel
theorem dL_change_483 : decode cL_change 483 = .ok (.goto 4, 3) := by decide +kernel
theorem dL_change_486 : decode cL_change 486 = .ok (.iconst 0, 1) := by decide +kernel
theorem dL_change_487 : decode cL_change 487 = .ok (.ireturn, 1) := by decide +kernel
theorem dL_change_488 : decode cL_change 488 = .ok (.aload_n 0, 1) := by decide +kernel
theorem dL_change_489 : decode cL_change 489 = .ok (.iconst 3, 1) := by decide +kernel
theorem dL_change_490 : decode cL_change 490 = .ok (.invokevirtual 9, 3) := by decide +kernel
theorem dL_change_493 : decode cL_change 493 = .ok (.istore 10, 2) := by decide +kernel
theorem dL_change_495 : decode cL_change 495 = .ok (.aload_n 0, 1) := by decide +kernel
theorem dL_change_496 : decode cL_change 496 = .ok (.iconst 2, 1) := by decide +kernel
theorem dL_change_497 : decode cL_change 497 = .ok (.invokevirtual 9, 3) := by decide +kernel
theorem dL_change_500 : decode cL_change 500 = .ok (.istore 11, 2) := by decide +kernel
theorem dL_change_502 : decode cL_change 502 = .ok (.aload_n 0, 1) := by decide +kernel
theorem dL_change_503 : decode cL_change 503 = .ok (.bipush 8, 2) := by decide +kernel
theorem dL_change_505 : decode cL_change 505 = .ok (.invokevirtual 9, 3) := by decide +kernel
theorem dL_change_508 : decode cL_change 508 = .ok (.istore 12, 2) := by decide +kernel
theorem dL_change_510 : decode cL_change 510 = .ok (.aload_n 0, 1) := by decide +kernel
theorem dL_change_511 : decode cL_change 511 = .ok (.iconst 0, 1) := by decide +kernel
theorem dL_change_512 : decode cL_change 512 = .ok (.invokevirtual 49, 3) := by decide +kernel
theorem dL_change_515 : decode cL_change 515 = .ok (.istore 7, 2) := by decide +kernel
theorem dL_change_517 : decode cL_change 517 = .ok (.aload_n 0, 1) := by decide +kernel
theorem dL_change_518 : decode cL_change 518 = .ok (.invokevirtual 52, 3) := by decide +kernel
theorem dL_change_521 : decode cL_change 521 = .ok (.istore 8, 2) := by decide +kernel
theorem dL_change_523 : decode cL_change 523 = .ok (.iload 8, 2) := by decide +kernel
theorem dL_change_525 : decode cL_change 525 = .ok (.iload 7, 2) := by decide +kernel
theorem dL_change_527 : decode cL_change 527 = .ok (.if_icmp .ne 46, 3) := by decide +kernel
theorem dL_change_530 : decode cL_change 530 = .ok (.aload_n 0, 1) := by decide +kernel
theorem dL_change_531 : decode cL_change 531 = .ok (.iconst 3, 1) := by decide +kernel
theorem dL_change_532 : decode cL_change 532 = .ok (.invokevirtual 9, 3) := by decide +kernel
theorem dL_change_535 : decode cL_change 535 = .ok (.iload 10, 2) := by decide +kernel
theorem dL_change_537 : decode cL_change 537 = .ok (.iload 7, 2) := by decide +kernel
theorem dL_change_539 : decode cL_change 539 = .ok (.iadd, 1) := by decide +kernel
theorem dL_change_540 : decode cL_change 540 = .ok (.if_icmp .ne 33, 3) := by decide +kernel
theorem dL_change_543 : decode cL_change 543 = .ok (.aload_n 0, 1) := by decide +kernel
theorem dL_change_544 : decode cL_change 544 = .ok (.iconst 2, 1) := by decide +kernel
theorem dL_change_545 : decode cL_change 545 = .ok (.invokevirtual 9, 3) := by decide +kernel
theorem dL_change_548 : decode cL_change 548 = .ok (.iload 11, 2) := by decide +kernel
theorem dL_change_550 : decode cL_change 550 = .ok (.iload 7, 2) := by decide +kernel
theorem dL_change_552 : decode cL_change 552 = .ok (.isub, 1) := by decide +kernel
theorem dL_change_553 : decode cL_change 553 = .ok (.if_icmp .ne 20, 3) := by decide +kernel
theorem dL_change_556 : decode cL_change 556 = .ok (.aload_n 0, 1) := by decide +kernel
theorem dL_change_557 : decode cL_change 557 = .ok (.bipush 8, 2) := by decide +kernel
theorem dL_change_559 : decode cL_change 559 = .ok (.invokevirtual 9, 3) := by decide +kernel
theorem dL_change_562 : decode cL_change 562 = .ok (.iload 12, 2) := by decide +kernel
theorem dL_change_564 : decode cL_change 564 = .ok (.iconst 1, 1) := by decide +kernel
theorem dL_change_565 : decode cL_change 565 = .ok (.iadd, 1) := by decide +kernel
theorem dL_change_566 : decode cL_change 566 = .ok (.if_icmp .ne 7, 3) := by decide +kernel
theorem dL_change_569 : decode cL_change 569 = .ok (.iconst 1, 1) := by decide +kernel
theorem dL_change_570 : decode cL_change 570 = .ok (.goto 4, 3) := by decide +kernel
theorem dL_change_573 : decode cL_change 573 = .ok (.iconst 0, 1) := by decide +kernel
theorem dL_change_574 : decode cL_change 574 = .ok (.istore 9, 2) := by decide +kernel
theorem dL_change_576 : decode cL_change 576 = .ok (.goto 165, 3) := by decide +kernel
theorem dL_change_579 : decode cL_change 579 = .ok (.aload_n 0, 1) := by decide +kernel
theorem dL_change_580 : decode cL_change 580 = .ok (.iconst 0, 1) := by decide +kernel
theorem dL_change_581 : decode cL_change 581 = .ok (.invokevirtual 9, 3) := by decide +kernel
theorem dL_change_584 : decode cL_change 584 = .ok (.istore 13, 2) := by decide +kernel
theorem dL_change_586 : decode cL_change 586 = .ok (.aload_n 0, 1) := by decide +kernel
theorem dL_change_587 : decode cL_change 587 = .ok (.iconst 5, 1) := by decide +kernel
theorem dL_change_588 : decode cL_change 588 = .ok (.invokevirtual 9, 3) := by decide +kernel
theorem dL_change_591 : decode cL_change 591 = .ok (.istore 14, 2) := by decide +kernel
theorem dL_change_593 : decode cL_change 593 = .ok (.aload_n 0, 1) := by decide +kernel
theorem dL_change_594 : decode cL_change 594 = .ok (.bipush 7, 2) := by decide +kernel
theorem dL_change_596 : decode cL_change 596 = .ok (.invokevirtual 9, 3) := by decide +kernel
theorem dL_change_599 : decode cL_change 599 = .ok (.istore 15, 2) := by decide +kernel
theorem dL_change_601 : decode cL_change 601 = .ok (.aload_n 0, 1) := by decide +kernel
theorem dL_change_602 : decode cL_change 602 = .ok (.bipush 6, 2) := by decide +kernel
theorem dL_change_604 : decode cL_change 604 = .ok (.invokevirtual 9, 3) := by decide +kernel
theorem dL_change_607 : decode cL_change 607 = .ok (.istore 16, 2) := by decide +kernel
theorem dL_change_609 : decode cL_change 609 = .ok (.sipush 421, 3) := by decide +kernel
theorem dL_change_612 : decode cL_change 612 = .ok (.aload_n 0, 1) := by decide +kernel
theorem dL_change_613 : decode cL_change 613 = .ok (.bipush 12, 2) := by decide +kernel
theorem dL_change_615 : decode cL_change 615 = .ok (.invokevirtual 9, 3) := by decide +kernel
theorem dL_change_618 : decode cL_change 618 = .ok (.imul, 1) := by decide +kernel
theorem dL_change_619 : decode cL_change 619 = .ok (.sipush 1663, 3) := by decide +kernel
theorem dL_change_622 : decode cL_change 622 = .ok (.iadd, 1) := by decide +kernel
theorem dL_change_623 : decode cL_change 623 = .ok (.sipush 10000, 3) := by decide +kernel
theorem dL_change_626 : decode cL_change 626 = .ok (.irem, 1) := by decide +kernel
theorem dL_change_627 : decode cL_change 627 = .ok (.istore 17, 2) := by decide +kernel
theorem dL_change_629 : decode cL_change 629 = .ok (.aload_n 0, 1) := by decide +kernel
theorem dL_change_630 : decode cL_change 630 = .ok (.invokevirtual 56, 3) := by decide +kernel
theorem dL_change_633 : decode cL_change 633 = .ok (.istore 8, 2) := by decide +kernel
theorem dL_change_635 : decode cL_change 635 = .ok (.iload 8, 2) := by decide +kernel
theorem dL_change_637 : decode cL_change 637 = .ok (.iload 14, 2) := by decide +kernel
theorem dL_change_639 : decode cL_change 639 = .ok (.if_icmp .lt 99, 3) := by decide +kernel
theorem dL_change_642 : decode cL_change 642 = .ok (.aload_n 0, 1) := by decide +kernel
theorem dL_change_643 : decode cL_change 643 = .ok (.iconst 0, 1) := by decide +kernel
theorem dL_change_644 : decode cL_change 644 = .ok (.invokevirtual 9, 3) := by decide +kernel
theorem dL_change_647 : decode cL_change 647 = .ok (.iload 13, 2) := by decide +kernel
theorem dL_change_649 : decode cL_change 649 = .ok (.iconst 1, 1) := by decide +kernel
theorem dL_change_650 : decode cL_change 650 = .ok (.iadd, 1) := by decide +kernel
theorem dL_change_651 : decode cL_change 651 = .ok (.if_icmp .ne 87, 3) := by decide +kernel
theorem dL_change_654 : decode cL_change 654 = .ok (.aload_n 0, 1) := by decide +kernel
theorem dL_change_655 : decode cL_change 655 = .ok (.bipush 6, 2) := by decide +kernel
theorem dL_change_657 : decode cL_change 657 = .ok (.invokevirtual 9, 3) := by decide +kernel
theorem dL_change_660 : decode cL_change 660 = .ok (.iload 16, 2) := by decide +kernel
theorem dL_change_662 : decode cL_change 662 = .ok (.iload 8, 2) := by decide +kernel
theorem dL_change_664 : decode cL_change 664 = .ok (.iadd, 1) := by decide +kernel
theorem dL_change_665 : decode cL_change 665 = .ok (.if_icmp .ne 73, 3) := by decide +kernel
theorem dL_change_668 : decode cL_change 668 = .ok (.aload_n 0, 1) := by decide +kernel
theorem dL_change_669 : decode cL_change 669 = .ok (.bipush 7, 2) := by decide +kernel
theorem dL_change_671 : decode cL_change 671 = .ok (.invokevirtual 9, 3) := by decide +kernel
theorem dL_change_674 : decode cL_change 674 = .ok (.iload 15, 2) := by decide +kernel
theorem dL_change_676 : decode cL_change 676 = .ok (.iload 8, 2) := by decide +kernel
theorem dL_change_678 : decode cL_change 678 = .ok (.iadd, 1) := by decide +kernel
theorem dL_change_679 : decode cL_change 679 = .ok (.if_icmp .ne 59, 3) := by decide +kernel
theorem dL_change_682 : decode cL_change 682 = .ok (.aload_n 0, 1) := by decide +kernel
theorem dL_change_683 : decode cL_change 683 = .ok (.bipush 12, 2) := by decide +kernel
theorem dL_change_685 : decode cL_change 685 = .ok (.invokevirtual 9, 3) := by decide +kernel
theorem dL_change_688 : decode cL_change 688 = .ok (.iload 17, 2) := by decide +kernel
theorem dL_change_690 : decode cL_change 690 = .ok (.if_icmp .ne 48, 3) := by decide +kernel
theorem dL_change_693 : decode cL_change 693 = .ok (.aload_n 0, 1) := by decide +kernel
theorem dL_change_694 : decode cL_change 694 = .ok (.bipush 13, 2) := by decide +kernel
theorem dL_change_696 : decode cL_change 696 = .ok (.invokevirtual 9, 3) := by decide +kernel
theorem dL_change_699 : decode cL_change 699 = .ok (.iload 17, 2) := by decide +kernel
theorem dL_change_701 : decode cL_change 701 = .ok (.iload 4, 2) := by decide +kernel
theorem dL_change_703 : decode cL_change 703 = .ok (.iconst 1, 1) := by decide +kernel
theorem dL_change_704 : decode cL_change 704 = .ok (.iadd, 1) := by decide +kernel
theorem dL_change_705 : decode cL_change 705 = .ok (.irem, 1) := by decide +kernel
theorem dL_change_706 : decode cL_change 706 = .ok (.iload 4, 2) := by decide +kernel
theorem dL_change_708 : decode cL_change 708 = .ok (.if_icmp .ne 8, 3) := by decide +kernel
theorem dL_change_711 : decode cL_change 711 = .ok (.bipush (-4), 2) := by decide +kernel
theorem dL_change_713 : decode cL_change 713 = .ok (.goto 10, 3) := by decide +kernel
theorem dL_change_716 : decode cL_change 716 = .ok (.iload 17, 2) := by decide +kernel
theorem dL_change_718 : decode cL_change 718 = .ok (.iload 4, 2) := by decide +kernel
theorem dL_change_720 : decode cL_change 720 = .ok (.iconst 1, 1) := by decide +kernel
theorem dL_change_721 : decode cL_change 721 = .ok (.iadd, 1) := by decide +kernel
theorem dL_change_722 : decode cL_change 722 = .ok (.irem, 1) := by decide +kernel
theorem dL_change_723 : decode cL_change 723 = .ok (.if_icmp .ne 15, 3) := by decide +kernel
theorem dL_change_726 : decode cL_change 726 = .ok (.aload_n 0, 1) := by decide +kernel
theorem dL_change_727 : decode cL_change 727 = .ok (.iconst 5, 1) := by decide +kernel
theorem dL_change_728 : decode cL_change 728 = .ok (.invokevirtual 9, 3) := by decide +kernel
theorem dL_change_731 : decode cL_change 731 = .ok (.ifCond .ne 7, 3) := by decide +kernel
theorem dL_change_734 : decode cL_change 734 = .ok (.iconst 1, 1) := by decide +kernel
theorem dL_change_735 : decode cL_change 735 = .ok (.goto 4, 3) := by decide +kernel
theorem dL_change_738 : decode cL_change 738 = .ok (.iconst 0, 1) := by decide +kernel
theorem dL_change_739 : decode cL_change 739 = .ok (.istore 9, 2) := by decide +kernel
theorem dL_change_741 : decode cL_change 741 = .ok (.iload 9, 2) := by decide +kernel
theorem dL_change_743 : decode cL_change 743 = .ok (.ifCond .eq 40, 3) := by decide +kernel
theorem dL_change_746 : decode cL_change 746 = .ok (.aload_n 0, 1) := by decide +kernel
theorem dL_change_747 : decode cL_change 747 = .ok (.bipush 15, 2) := by decide +kernel
theorem dL_change_749 : decode cL_change 749 = .ok (.invokevirtual 9, 3) := by decide +kernel
theorem dL_change_752 : decode cL_change 752 = .ok (.iload 8, 2) := by decide +kernel
theorem dL_change_754 : decode cL_change 754 = .ok (.ifCond .ge 8, 3) := by decide +kernel
theorem dL_change_757 : decode cL_change 757 = .ok (.iload 5, 2) := by decide +kernel
theorem dL_change_759 : decode cL_change 759 = .ok (.goto 17, 3) := by decide +kernel
theorem dL_change_762 : decode cL_change 762 = .ok (.iload 5, 2) := by decide +kernel
theorem dL_change_764 : decode cL_change 764 = .ok (.iconst 4, 1) := by decide +kernel
theorem dL_change_765 : decode cL_change 765 = .ok (.if_icmp .ne 7, 3) := by decide +kernel
theorem dL_change_768 : decode cL_change 768 = .ok (.iconst 4, 1) := by decide +kernel
theorem dL_change_769 : decode cL_change 769 = .ok (.goto 7, 3) := by decide +kernel
theorem dL_change_772 : decode cL_change 772 = .ok (.iload 5, 2) := by decide +kernel
theorem dL_change_774 : decode cL_change 774 = .ok (.iconst 1, 1) := by decide +kernel
theorem dL_change_775 : decode cL_change 775 = .ok (.iadd, 1) := by decide +kernel
theorem dL_change_776 : decode cL_change 776 = .ok (.if_icmp .ne 7, 3) := by decide +kernel
theorem dL_change_779 : decode cL_change 779 = .ok (.iconst 1, 1) := by decide +kernel
theorem dL_change_780 : decode cL_change 780 = .ok (.goto 4, 3) := by decide +kernel
theorem dL_change_783 : decode cL_change 783 = .ok (.iconst 0, 1) := by decide +kernel
theorem dL_change_784 : decode cL_change 784 = .ok (.ireturn, 1) := by decide +kernel
theorem dL_barters_0 : decode cL_barters 0 = .ok (.aload_n 0, 1) := by decide +kernel
theorem dL_barters_1 : decode cL_barters 1 = .ok (.iload_n 1, 1) := by decide +kernel
theorem dL_barters_2 : decode cL_barters 2 = .ok (.iload_n 2, 1) := by decide +kernel
theorem dL_barters_3 : decode cL_barters 3 = .ok (.invokevirtual 59, 3) := by decide +kernel
theorem dL_barters_6 : decode cL_barters 6 = .ok (.istore_n 3, 1) := by decide +kernel
theorem dL_barters_7 : decode cL_barters 7 = .ok (.aload_n 0, 1) := by decide +kernel
theorem dL_barters_8 : decode cL_barters 8 = .ok (.iconst 3, 1) := by decide +kernel
theorem dL_barters_9 : decode cL_barters 9 = .ok (.invokevirtual 9, 3) := by decide +kernel
theorem dL_barters_12 : decode cL_barters 12 = .ok (.istore 4, 2) := by decide +kernel
theorem dL_barters_14 : decode cL_barters 14 = .ok (.aload_n 0, 1) := by decide +kernel
theorem dL_barters_15 : decode cL_barters 15 = .ok (.bipush 9, 2) := by decide +kernel
theorem dL_barters_17 : decode cL_barters 17 = .ok (.invokevirtual 9, 3) := by decide +kernel
theorem dL_barters_20 : decode cL_barters 20 = .ok (.istore 5, 2) := by decide +kernel
theorem dL_barters_22 : decode cL_barters 22 = .ok (.iload_n 3, 1) := by decide +kernel
theorem dL_barters_23 : decode cL_barters 23 = .ok (.ifCond .ge 7, 3) := by decide +kernel
theorem dL_barters_26 : decode cL_barters 26 = .ok (.iconst 0, 1) := by decide +kernel
theorem dL_barters_27 : decode cL_barters 27 = .ok (.goto 9, 3) := by decide +kernel
theorem dL_barters_30 : decode cL_barters 30 = .ok (.aload_n 0, 1) := by decide +kernel
theorem dL_barters_31 : decode cL_barters 31 = .ok (.iload_n 1, 1) := by decide +kernel
theorem dL_barters_32 : decode cL_barters 32 = .ok (.iconst 2, 1) := by decide +kernel
theorem dL_barters_33 : decode cL_barters 33 = .ok (.invokevirtual 24, 3) := by decide +kernel
theorem dL_barters_36 : decode cL_barters 36 = .ok (.istore 6, 2) := by decide +kernel
theorem dL_barters_38 : decode cL_barters 38 = .ok (.iload_n 3, 1) := by decide +kernel
theorem dL_barters_39 : decode cL_barters 39 = .ok (.ifCond .ge 7, 3) := by decide +kernel
theorem dL_barters_42 : decode cL_barters 42 = .ok (.iconst 0, 1) := by decide +kernel
theorem dL_barters_43 : decode cL_barters 43 = .ok (.goto 9, 3) := by decide +kernel
theorem dL_barters_46 : decode cL_barters 46 = .ok (.aload_n 0, 1) := by decide +kernel
theorem dL_barters_47 : decode cL_barters 47 = .ok (.iload_n 1, 1) := by decide +kernel
theorem dL_barters_48 : decode cL_barters 48 = .ok (.iconst 3, 1) := by decide +kernel
theorem dL_barters_49 : decode cL_barters 49 = .ok (.invokevirtual 24, 3) := by decide +kernel
theorem dL_barters_52 : decode cL_barters 52 = .ok (.istore 7, 2) := by decide +kernel
theorem dL_barters_54 : decode cL_barters 54 = .ok (.iload_n 3, 1) := by decide +kernel
theorem dL_barters_55 : decode cL_barters 55 = .ok (.ifCond .ge 7, 3) := by decide +kernel
theorem dL_barters_58 : decode cL_barters 58 = .ok (.iconst 0, 1) := by decide +kernel
theorem dL_barters_59 : decode cL_barters 59 = .ok (.goto 9, 3) := by decide +kernel
theorem dL_barters_62 : decode cL_barters 62 = .ok (.aload_n 0, 1) := by decide +kernel
theorem dL_barters_63 : decode cL_barters 63 = .ok (.iload_n 2, 1) := by decide +kernel
theorem dL_barters_64 : decode cL_barters 64 = .ok (.iconst 2, 1) := by decide +kernel
theorem dL_barters_65 : decode cL_barters 65 = .ok (.invokevirtual 24, 3) := by decide +kernel
theorem dL_barters_68 : decode cL_barters 68 = .ok (.istore 8, 2) := by decide +kernel
theorem dL_barters_70 : decode cL_barters 70 = .ok (.aload_n 0, 1) := by decide +kernel
theorem dL_barters_71 : decode cL_barters 71 = .ok (.iload_n 1, 1) := by decide +kernel
theorem dL_barters_72 : decode cL_barters 72 = .ok (.iload_n 2, 1) := by decide +kernel
theorem dL_barters_73 : decode cL_barters 73 = .ok (.invokevirtual 62, 3) := by decide +kernel
theorem dL_barters_76 : decode cL_barters 76 = .ok (.istore 9, 2) := by decide +kernel
theorem dL_barters_78 : decode cL_barters 78 = .ok (.iload_n 3, 1) := by decide +kernel
theorem dL_barters_79 : decode cL_barters 79 = .ok (.ifCond .eq 46, 3) := by decide +kernel
theorem dL_barters_82 : decode cL_barters 82 = .ok (.iload 9, 2) := by decide +kernel
theorem dL_barters_84 : decode cL_barters 84 = .ok (.iload_n 3, 1) := by decide +kernel
theorem dL_barters_85 : decode cL_barters 85 = .ok (.if_icmp .ne 38, 3) := by decide +kernel
theorem dL_barters_88 : decode cL_barters 88 = .ok (.aload_n 0, 1) := by decide +kernel
theorem dL_barters_89 : decode cL_barters 89 = .ok (.bipush 9, 2) := by decide +kernel
theorem dL_barters_91 : decode cL_barters 91 = .ok (.invokevirtual 9, 3) := by decide +kernel
theorem dL_barters_94 : decode cL_barters 94 = .ok (.iload 5, 2) := by decide +kernel
theorem dL_barters_96 : decode cL_barters 96 = .ok (.iload_n 3, 1) := by decide +kernel
theorem dL_barters_97 : decode cL_barters 97 = .ok (.ifCond .le 7, 3) := by decide +kernel
theorem dL_barters_100 : decode cL_barters 100 = .ok (.iconst 1, 1) := by decide +kernel
theorem dL_barters_101 : decode cL_barters 101 = .ok (.goto 4, 3) := by decide +kernel
theorem dL_barters_104 : decode cL_barters 104 = .ok (.iconst 0, 1) := by decide +kernel
theorem dL_barters_105 : decode cL_barters 105 = .ok (.iadd, 1) := by decide +kernel
theorem dL_barters_106 : decode cL_barters 106 = .ok (.if_icmp .ne 17, 3) := by decide +kernel
theorem dL_barters_109 : decode cL_barters 109 = .ok (.aload_n 0, 1) := by decide +kernel
theorem dL_barters_110 : decode cL_barters 110 = .ok (.iconst 3, 1) := by decide +kernel
theorem dL_barters_111 : decode cL_barters 111 = .ok (.invokevirtual 9, 3) := by decide +kernel
theorem dL_barters_114 : decode cL_barters 114 = .ok (.iload 4, 2) := by decide +kernel
theorem dL_barters_116 : decode cL_barters 116 = .ok (.if_icmp .ne 7, 3) := by decide +kernel
theorem dL_barters_119 : decode cL_barters 119 = .ok (.iconst 1, 1) := by decide +kernel
theorem dL_barters_120 : decode cL_barters 120 = .ok (.goto 4, 3) := by decide +kernel
theorem dL_barters_123 : decode cL_barters 123 = .ok (.iconst 0, 1) := by decide +kernel
theorem dL_barters_124 : decode cL_barters 124 = .ok (.ireturn, 1) := by decide +kernel
theorem dL_barters_125 : decode cL_barters 125 = .ok (.iload 9, 2) := by decide +kernel
theorem dL_barters_127 : decode cL_barters 127 = .ok (.bipush 10, 2) := by decide +kernel
theorem dL_barters_129 : decode cL_barters 129 = .ok (.if_icmp .ne 80, 3) := by decide +kernel
theorem dL_barters_132 : decode cL_barters 132 = .ok (.aload_n 0, 1) := by decide +kernel
theorem dL_barters_133 : decode cL_barters 133 = .ok (.iconst 3, 1) := by decide +kernel
theorem dL_barters_134 : decode cL_barters 134 = .ok (.invokevirtual 9, 3) := by decide +kernel
theorem dL_barters_137 : decode cL_barters 137 = .ok (.iload 4, 2) := by decide +kernel
theorem dL_barters_139 : decode cL_barters 139 = .ok (.iconst 2, 1) := by decide +kernel
theorem dL_barters_140 : decode cL_barters 140 = .ok (.iadd, 1) := by decide +kernel
theorem dL_barters_141 : decode cL_barters 141 = .ok (.if_icmp .ne 68, 3) := by decide +kernel
theorem dL_barters_144 : decode cL_barters 144 = .ok (.aload_n 0, 1) := by decide +kernel
theorem dL_barters_145 : decode cL_barters 145 = .ok (.iload_n 1, 1) := by decide +kernel
theorem dL_barters_146 : decode cL_barters 146 = .ok (.iconst 2, 1) := by decide +kernel
theorem dL_barters_147 : decode cL_barters 147 = .ok (.invokevirtual 24, 3) := by decide +kernel
theorem dL_barters_150 : decode cL_barters 150 = .ok (.iload 8, 2) := by decide +kernel
theorem dL_barters_152 : decode cL_barters 152 = .ok (.if_icmp .ne 57, 3) := by decide +kernel
theorem dL_barters_155 : decode cL_barters 155 = .ok (.aload_n 0, 1) := by decide +kernel
theorem dL_barters_156 : decode cL_barters 156 = .ok (.iload_n 2, 1) := by decide +kernel
theorem dL_barters_157 : decode cL_barters 157 = .ok (.iconst 2, 1) := by decide +kernel
theorem dL_barters_158 : decode cL_barters 158 = .ok (.invokevirtual 24, 3) := by decide +kernel
theorem dL_barters_161 : decode cL_barters 161 = .ok (.iload 6, 2) := by decide +kernel
theorem dL_barters_163 : decode cL_barters 163 = .ok (.if_icmp .ne 46, 3) := by decide +kernel
theorem dL_barters_166 : decode cL_barters 166 = .ok (.aload_n 0, 1) := by decide +kernel
theorem dL_barters_167 : decode cL_barters 167 = .ok (.iload_n 2, 1) := by decide +kernel
theorem dL_barters_168 : decode cL_barters 168 = .ok (.iconst 3, 1) := by decide +kernel
theorem dL_barters_169 : decode cL_barters 169 = .ok (.invokevirtual 24, 3) := by decide +kernel
theorem dL_barters_172 : decode cL_barters 172 = .ok (.iload 7, 2) := by decide +kernel
theorem dL_barters_174 : decode cL_barters 174 = .ok (.if_icmp .ne 35, 3) := by decide +kernel
theorem dL_barters_177 : decode cL_barters 177 = .ok (.aload_n 0, 1) := by decide +kernel
theorem dL_barters_178 : decode cL_barters 178 = .ok (.iload_n 1, 1) := by decide +kernel
theorem dL_barters_179 : decode cL_barters 179 = .ok (.iconst 1, 1) := by decide +kernel
theorem dL_barters_180 : decode cL_barters 180 = .ok (.invokevirtual 24, 3) := by decide +kernel
theorem dL_barters_183 : decode cL_barters 183 = .ok (.iload 8, 2) := by decide +kernel
theorem dL_barters_185 : decode cL_barters 185 = .ok (.ishr, 1) := by decide +kernel
theorem dL_barters_186 : decode cL_barters 186 = .ok (.iconst 1, 1) := by decide +kernel
theorem dL_barters_187 : decode cL_barters 187 = .ok (.iand, 1) := by decide +kernel
theorem dL_barters_188 : decode cL_barters 188 = .ok (.ifCond .ne 21, 3) := by decide +kernel
theorem dL_barters_191 : decode cL_barters 191 = .ok (.aload_n 0, 1) := by decide +kernel
theorem dL_barters_192 : decode cL_barters 192 = .ok (.iload_n 2, 1) := by decide +kernel
theorem dL_barters_193 : decode cL_barters 193 = .ok (.iconst 1, 1) := by decide +kernel
theorem dL_barters_194 : decode cL_barters 194 = .ok (.invokevirtual 24, 3) := by decide +kernel
theorem dL_barters_197 : decode cL_barters 197 = .ok (.iload 6, 2) := by decide +kernel
theorem dL_barters_199 : decode cL_barters 199 = .ok (.ishr, 1) := by decide +kernel
theorem dL_barters_200 : decode cL_barters 200 = .ok (.iconst 1, 1) := by decide +kernel
theorem dL_barters_201 : decode cL_barters 201 = .ok (.iand, 1) := by decide +kernel
theorem dL_barters_202 : decode cL_barters 202 = .ok (.ifCond .ne 7, 3) := by decide +kernel
theorem dL_barters_205 : decode cL_barters 205 = .ok (.iconst 1, 1) := by decide +kernel
theorem dL_barters_206 : decode cL_barters 206 = .ok (.goto 4, 3) := by decide +kernel
theorem dL_barters_209 : decode cL_barters 209 = .ok (.iconst 0, 1) := by decide +kernel
theorem dL_barters_210 : decode cL_barters 210 = .ok (.ireturn, 1) := by decide +kernel
theorem dL_isTrader_0 : decode cL_isTrader 0 = .ok (.aload_n 0, 1) := by decide +kernel
theorem dL_isTrader_1 : decode cL_isTrader 1 = .ok (.iconst 1, 1) := by decide +kernel
theorem dL_isTrader_2 : decode cL_isTrader 2 = .ok (.invokevirtual 9, 3) := by decide +kernel
theorem dL_isTrader_5 : decode cL_isTrader 5 = .ok (.istore_n 2, 1) := by decide +kernel
theorem dL_isTrader_6 : decode cL_isTrader 6 = .ok (.aload_n 0, 1) := by decide +kernel
theorem dL_isTrader_7 : decode cL_isTrader 7 = .ok (.aload_n 0, 1) := by decide +kernel
theorem dL_isTrader_8 : decode cL_isTrader 8 = .ok (.iload_n 1, 1) := by decide +kernel
theorem dL_isTrader_9 : decode cL_isTrader 9 = .ok (.iconst 2, 1) := by decide +kernel
theorem dL_isTrader_10 : decode cL_isTrader 10 = .ok (.invokevirtual 24, 3) := by decide +kernel
theorem dL_isTrader_13 : decode cL_isTrader 13 = .ok (.iconst 0, 1) := by decide +kernel
theorem dL_isTrader_14 : decode cL_isTrader 14 = .ok (.invokevirtual 33, 3) := by decide +kernel
theorem dL_isTrader_17 : decode cL_isTrader 17 = .ok (.aload_n 0, 1) := by decide +kernel
theorem dL_isTrader_18 : decode cL_isTrader 18 = .ok (.iload_n 1, 1) := by decide +kernel
theorem dL_isTrader_19 : decode cL_isTrader 19 = .ok (.iconst 3, 1) := by decide +kernel
theorem dL_isTrader_20 : decode cL_isTrader 20 = .ok (.invokevirtual 24, 3) := by decide +kernel
theorem dL_isTrader_23 : decode cL_isTrader 23 = .ok (.isub, 1) := by decide +kernel
theorem dL_isTrader_24 : decode cL_isTrader 24 = .ok (.istore_n 3, 1) := by decide +kernel
theorem dL_isTrader_25 : decode cL_isTrader 25 = .ok (.iconst 0, 1) := by decide +kernel
theorem dL_isTrader_26 : decode cL_isTrader 26 = .ok (.istore 4, 2) := by decide +kernel
theorem dL_isTrader_28 : decode cL_isTrader 28 = .ok (.iconst 0, 1) := by decide +kernel
theorem dL_isTrader_29 : decode cL_isTrader 29 = .ok (.istore 5, 2) := by decide +kernel
theorem dL_isTrader_31 : decode cL_isTrader 31 = .ok (.aload_n 0, 1) := by decide +kernel
theorem dL_isTrader_32 : decode cL_isTrader 32 = .ok (.iload_n 1, 1) := by decide +kernel
theorem dL_isTrader_33 : decode cL_isTrader 33 = .ok (.iconst 4, 1) := by decide +kernel
theorem dL_isTrader_34 : decode cL_isTrader 34 = .ok (.invokevirtual 24, 3) := by decide +kernel
theorem dL_isTrader_37 : decode cL_isTrader 37 = .ok (.iload_n 3, 1) := by decide +kernel
theorem dL_isTrader_38 : decode cL_isTrader 38 = .ok (.ifCond .le 7, 3) := by decide +kernel
theorem dL_isTrader_41 : decode cL_isTrader 41 = .ok (.iload_n 3, 1) := by decide +kernel
theorem dL_isTrader_42 : decode cL_isTrader 42 = .ok (.goto 4, 3) := by decide +kernel
theorem dL_isTrader_45 : decode cL_isTrader 45 = .ok (.iconst 0, 1) := by decide +kernel
theorem dL_isTrader_46 : decode cL_isTrader 46 = .ok (.if_icmp .ne 41, 3) := by decide +kernel
theorem dL_isTrader_49 : decode cL_isTrader 49 = .ok (.aload_n 0, 1) := by decide +kernel
theorem dL_isTrader_50 : decode cL_isTrader 50 = .ok (.iload_n 1, 1) := by decide +kernel
theorem dL_isTrader_51 : decode cL_isTrader 51 = .ok (.iconst 5, 1) := by decide +kernel
theorem dL_isTrader_52 : decode cL_isTrader 52 = .ok (.invokevirtual 24, 3) := by decide +kernel
theorem dL_isTrader_55 : decode cL_isTrader 55 = .ok (.aload_n 0, 1) := by decide +kernel
theorem dL_isTrader_56 : decode cL_isTrader 56 = .ok (.bipush 13, 2) := by decide +kernel
theorem dL_isTrader_58 : decode cL_isTrader 58 = .ok (.invokevirtual 9, 3) := by decide +kernel
theorem dL_isTrader_61 : decode cL_isTrader 61 = .ok (.iload_n 1, 1) := by decide +kernel
theorem dL_isTrader_62 : decode cL_isTrader 62 = .ok (.if_icmp .ne 7, 3) := by decide +kernel
theorem dL_isTrader_65 : decode cL_isTrader 65 = .ok (.iconst 1, 1) := by decide +kernel
theorem dL_isTrader_66 : decode cL_isTrader 66 = .ok (.goto 4, 3) := by decide +kernel
theorem dL_isTrader_69 : decode cL_isTrader 69 = .ok (.iconst 0, 1) := by decide +kernel
theorem dL_isTrader_70 : decode cL_isTrader 70 = .ok (.if_icmp .ne 17, 3) := by decide +kernel
theorem dL_isTrader_73 : decode cL_isTrader 73 = .ok (.aload_n 0, 1) := by decide +kernel
theorem dL_isTrader_74 : decode cL_isTrader 74 = .ok (.iload_n 1, 1) := by decide +kernel
theorem dL_isTrader_75 : decode cL_isTrader 75 = .ok (.iload_n 1, 1) := by decide +kernel
theorem dL_isTrader_76 : decode cL_isTrader 76 = .ok (.invokevirtual 65, 3) := by decide +kernel
theorem dL_isTrader_79 : decode cL_isTrader 79 = .ok (.iconst (-1), 1) := by decide +kernel
theorem dL_isTrader_80 : decode cL_isTrader 80 = .ok (.if_icmp .ne 7, 3) := by decide +kernel
theorem dL_isTrader_83 : decode cL_isTrader 83 = .ok (.iconst 1, 1) := by decide +kernel
theorem dL_isTrader_84 : decode cL_isTrader 84 = .ok (.goto 4, 3) := by decide +kernel
theorem dL_isTrader_87 : decode cL_isTrader 87 = .ok (.iconst 0, 1) := by decide +kernel
theorem dL_isTrader_88 : decode cL_isTrader 88 = .ok (.istore 6, 2) := by decide +kernel
theorem dL_isTrader_90 : decode cL_isTrader 90 = .ok (.iconst 0, 1) := by decide +kernel
theorem dL_isTrader_91 : decode cL_isTrader 91 = .ok (.istore 7, 2) := by decide +kernel
theorem dL_isTrader_93 : decode cL_isTrader 93 = .ok (.iload 7, 2) := by decide +kernel
theorem dL_isTrader_95 : decode cL_isTrader 95 = .ok (.iload_n 2, 1) := by decide +kernel
theorem dL_isTrader_96 : decode cL_isTrader 96 = .ok (.if_icmp .ge 258, 3) := by decide +kernel
theorem dL_isTrader_99 : decode cL_isTrader 99 = .ok (.iload 6, 2) := by decide +kernel
theorem dL_isTrader_101 : decode cL_isTrader 101 = .ok (.ifCond .eq 253, 3) := by decide +kernel
theorem dL_isTrader_104 : decode cL_isTrader 104 = .ok (.iload 7, 2) := by decide +kernel
theorem dL_isTrader_106 : decode cL_isTrader 106 = .ok (.iload_n 1, 1) := by decide +kernel
theorem dL_isTrader_107 : decode cL_isTrader 107 = .ok (.if_icmp .eq 241, 3) := by decide +kernel
theorem dL_isTrader_110 : decode cL_isTrader 110 = .ok (.aload_n 0, 1) := by decide +kernel
theorem dL_isTrader_111 : decode cL_isTrader 111 = .ok (.iload_n 1, 1) := by decide +kernel
theorem dL_isTrader_112 : decode cL_isTrader 112 = .ok (.iconst 5, 1) := by decide +kernel
theorem dL_isTrader_113 : decode cL_isTrader 113 = .ok (.invokevirtual 24, 3) := by decide +kernel
theorem dL_isTrader_116 : decode cL_isTrader 116 = .ok (.aload_n 0, 1) := by decide +kernel
theorem dL_isTrader_117 : decode cL_isTrader 117 = .ok (.iload 7, 2) := by decide +kernel
theorem dL_isTrader_119 : decode cL_isTrader 119 = .ok (.iconst 5, 1) := by decide +kernel
theorem dL_isTrader_120 : decode cL_isTrader 120 = .ok (.invokevirtual 24, 3) := by decide +kernel
theorem dL_isTrader_123 : decode cL_isTrader 123 = .ok (.iadd, 1) := by decide +kernel
theorem dL_isTrader_124 : decode cL_isTrader 124 = .ok (.ifCond .le 7, 3) := by decide +kernel
theorem dL_isTrader_127 : decode cL_isTrader 127 = .ok (.iconst 1, 1) := by decide +kernel
theorem dL_isTrader_128 : decode cL_isTrader 128 = .ok (.goto 4, 3) := by decide +kernel
theorem dL_isTrader_131 : decode cL_isTrader 131 = .ok (.iconst 0, 1) := by decide +kernel
theorem dL_isTrader_132 : decode cL_isTrader 132 = .ok (.istore 8, 2) := by decide +kernel
theorem dL_isTrader_134 : decode cL_isTrader 134 = .ok (.aload_n 0, 1) := by decide +kernel
theorem dL_isTrader_135 : decode cL_isTrader 135 = .ok (.iload_n 1, 1) := by decide +kernel
theorem dL_isTrader_136 : decode cL_isTrader 136 = .ok (.iconst 4, 1) := by decide +kernel
theorem dL_isTrader_137 : decode cL_isTrader 137 = .ok (.invokevirtual 24, 3) := by decide +kernel
theorem dL_isTrader_140 : decode cL_isTrader 140 = .ok (.ifCond .le 17, 3) := by decide +kernel
theorem dL_isTrader_143 : decode cL_isTrader 143 = .ok (.aload_n 0, 1) := by decide +kernel
theorem dL_isTrader_144 : decode cL_isTrader 144 = .ok (.iload 7, 2) := by decide +kernel
theorem dL_isTrader_146 : decode cL_isTrader 146 = .ok (.iconst 4, 1) := by decide +kernel
theorem dL_isTrader_147 : decode cL_isTrader 147 = .ok (.invokevirtual 24, 3) := by decide +kernel
theorem dL_isTrader_150 : decode cL_isTrader 150 = .ok (.ifCond .le 7, 3) := by decide +kernel
theorem dL_isTrader_153 : decode cL_isTrader 153 = .ok (.iconst 1, 1) := by decide +kernel
theorem dL_isTrader_154 : decode cL_isTrader 154 = .ok (.goto 4, 3) := by decide +kernel
theorem dL_isTrader_157 : decode cL_isTrader 157 = .ok (.iconst 0, 1) := by decide +kernel
theorem dL_isTrader_158 : decode cL_isTrader 158 = .ok (.istore 9, 2) := by decide +kernel
theorem dL_isTrader_160 : decode cL_isTrader 160 = .ok (.aload_n 0, 1) := by decide +kernel
theorem dL_isTrader_161 : decode cL_isTrader 161 = .ok (.iload_n 1, 1) := by decide +kernel
theorem dL_isTrader_162 : decode cL_isTrader 162 = .ok (.iconst 1, 1) := by decide +kernel
theorem dL_isTrader_163 : decode cL_isTrader 163 = .ok (.invokevirtual 24, 3) := by decide +kernel
theorem dL_isTrader_166 : decode cL_isTrader 166 = .ok (.aload_n 0, 1) := by decide +kernel
theorem dL_isTrader_167 : decode cL_isTrader 167 = .ok (.iload 7, 2) := by decide +kernel
theorem dL_isTrader_169 : decode cL_isTrader 169 = .ok (.iconst 2, 1) := by decide +kernel
theorem dL_isTrader_170 : decode cL_isTrader 170 = .ok (.invokevirtual 24, 3) := by decide +kernel
theorem dL_isTrader_173 : decode cL_isTrader 173 = .ok (.ishr, 1) := by decide +kernel
theorem dL_isTrader_174 : decode cL_isTrader 174 = .ok (.iconst 1, 1) := by decide +kernel
theorem dL_isTrader_175 : decode cL_isTrader 175 = .ok (.iand, 1) := by decide +kernel
theorem dL_isTrader_176 : decode cL_isTrader 176 = .ok (.iconst 1, 1) := by decide +kernel
theorem dL_isTrader_177 : decode cL_isTrader 177 = .ok (.if_icmp .ne 7, 3) := by decide +kernel
theorem dL_isTrader_180 : decode cL_isTrader 180 = .ok (.iconst 1, 1) := by decide +kernel
theorem dL_isTrader_181 : decode cL_isTrader 181 = .ok (.goto 4, 3) := by decide +kernel
theorem dL_isTrader_184 : decode cL_isTrader 184 = .ok (.iconst 0, 1) := by decide +kernel
theorem dL_isTrader_185 : decode cL_isTrader 185 = .ok (.istore 10, 2) := by decide +kernel
theorem dL_isTrader_187 : decode cL_isTrader 187 = .ok (.aload_n 0, 1) := by decide +kernel
theorem dL_isTrader_188 : decode cL_isTrader 188 = .ok (.iload 7, 2) := by decide +kernel
theorem dL_isTrader_190 : decode cL_isTrader 190 = .ok (.iconst 1, 1) := by decide +kernel
theorem dL_isTrader_191 : decode cL_isTrader 191 = .ok (.invokevirtual 24, 3) := by decide +kernel
theorem dL_isTrader_194 : decode cL_isTrader 194 = .ok (.aload_n 0, 1) := by decide +kernel
theorem dL_isTrader_195 : decode cL_isTrader 195 = .ok (.iload_n 1, 1) := by decide +kernel
theorem dL_isTrader_196 : decode cL_isTrader 196 = .ok (.iconst 2, 1) := by decide +kernel
theorem dL_isTrader_197 : decode cL_isTrader 197 = .ok (.invokevirtual 24, 3) := by decide +kernel
theorem dL_isTrader_200 : decode cL_isTrader 200 = .ok (.ishr, 1) := by decide +kernel
theorem dL_isTrader_201 : decode cL_isTrader 201 = .ok (.iconst 1, 1) := by decide +kernel
theorem dL_isTrader_202 : decode cL_isTrader 202 = .ok (.iand, 1) := by decide +kernel
theorem dL_isTrader_203 : decode cL_isTrader 203 = .ok (.iconst 1, 1) := by decide +kernel
theorem dL_isTrader_204 : decode cL_isTrader 204 = .ok (.if_icmp .ne 7, 3) := by decide +kernel
theorem dL_isTrader_207 : decode cL_isTrader 207 = .ok (.iconst 1, 1) := by decide +kernel
theorem dL_isTrader_208 : decode cL_isTrader 208 = .ok (.goto 4, 3) := by decide +kernel
theorem dL_isTrader_211 : decode cL_isTrader 211 = .ok (.iconst 0, 1) := by decide +kernel
theorem dL_isTrader_212 : decode cL_isTrader 212 = .ok (.istore 11, 2) := by decide +kernel
theorem dL_isTrader_214 : decode cL_isTrader 214 = .ok (.iload 4, 2) := by decide +kernel
theorem dL_isTrader_216 : decode cL_isTrader 216 = .ok (.iload 8, 2) := by decide +kernel
theorem dL_isTrader_218 : decode cL_isTrader 218 = .ok (.ifCond .ne 17, 3) := by decide +kernel
theorem dL_isTrader_221 : decode cL_isTrader 221 = .ok (.iload 9, 2) := by decide +kernel
theorem dL_isTrader_223 : decode cL_isTrader 223 = .ok (.ifCond .eq 12, 3) := by decide +kernel
theorem dL_isTrader_226 : decode cL_isTrader 226 = .ok (.iload 10, 2) := by decide +kernel
theorem dL_isTrader_228 : decode cL_isTrader 228 = .ok (.ifCond .eq 7, 3) := by decide +kernel
theorem dL_isTrader_231 : decode cL_isTrader 231 = .ok (.iconst 1, 1) := by decide +kernel
theorem dL_isTrader_232 : decode cL_isTrader 232 = .ok (.goto 4, 3) := by decide +kernel
theorem dL_isTrader_235 : decode cL_isTrader 235 = .ok (.iconst 0, 1) := by decide +kernel
theorem dL_isTrader_236 : decode cL_isTrader 236 = .ok (.iadd, 1) := by decide +kernel
theorem dL_isTrader_237 : decode cL_isTrader 237 = .ok (.istore 4, 2) := by decide +kernel
theorem dL_isTrader_239 : decode cL_isTrader 239 = .ok (.iload 5, 2) := by decide +kernel
theorem dL_isTrader_241 : decode cL_isTrader 241 = .ok (.iload 8, 2) := by decide +kernel
theorem dL_isTrader_243 : decode cL_isTrader 243 = .ok (.ifCond .ne 17, 3) := by decide +kernel
theorem dL_isTrader_246 : decode cL_isTrader 246 = .ok (.iload 9, 2) := by decide +kernel
theorem dL_isTrader_248 : decode cL_isTrader 248 = .ok (.ifCond .eq 12, 3) := by decide +kernel
theorem dL_isTrader_251 : decode cL_isTrader 251 = .ok (.iload 11, 2) := by decide +kernel
theorem dL_isTrader_253 : decode cL_isTrader 253 = .ok (.ifCond .eq 7, 3) := by decide +kernel
theorem dL_isTrader_256 : decode cL_isTrader 256 = .ok (.iconst 1, 1) := by decide +kernel
theorem dL_isTrader_257 : decode cL_isTrader 257 = .ok (.goto 4, 3) := by decide +kernel
theorem dL_isTrader_260 : decode cL_isTrader 260 = .ok (.iconst 0, 1) := by decide +kernel
theorem dL_isTrader_261 : decode cL_isTrader 261 = .ok (.iadd, 1) := by decide +kernel
theorem dL_isTrader_262 : decode cL_isTrader 262 = .ok (.istore 5, 2) := by decide +kernel
theorem dL_isTrader_264 : decode cL_isTrader 264 = .ok (.aload_n 0, 1) := by decide +kernel
theorem dL_isTrader_265 : decode cL_isTrader 265 = .ok (.iload_n 1, 1) := by decide +kernel
theorem dL_isTrader_266 : decode cL_isTrader 266 = .ok (.iload 7, 2) := by decide +kernel
theorem dL_isTrader_268 : decode cL_isTrader 268 = .ok (.invokevirtual 65, 3) := by decide +kernel
theorem dL_isTrader_271 : decode cL_isTrader 271 = .ok (.iload 8, 2) := by decide +kernel
theorem dL_isTrader_273 : decode cL_isTrader 273 = .ok (.ifCond .ne 17, 3) := by decide +kernel
theorem dL_isTrader_276 : decode cL_isTrader 276 = .ok (.iload 9, 2) := by decide +kernel
theorem dL_isTrader_278 : decode cL_isTrader 278 = .ok (.ifCond .eq 12, 3) := by decide +kernel
theorem dL_isTrader_281 : decode cL_isTrader 281 = .ok (.iload 10, 2) := by decide +kernel
theorem dL_isTrader_283 : decode cL_isTrader 283 = .ok (.ifCond .eq 7, 3) := by decide +kernel
theorem dL_isTrader_286 : decode cL_isTrader 286 = .ok (.iconst 1, 1) := by decide +kernel
theorem dL_isTrader_287 : decode cL_isTrader 287 = .ok (.goto 4, 3) := by decide +kernel
theorem dL_isTrader_290 : decode cL_isTrader 290 = .ok (.iconst 0, 1) := by decide +kernel
theorem dL_isTrader_291 : decode cL_isTrader 291 = .ok (.if_icmp .ne 54, 3) := by decide +kernel
theorem dL_isTrader_294 : decode cL_isTrader 294 = .ok (.aload_n 0, 1) := by decide +kernel
theorem dL_isTrader_295 : decode cL_isTrader 295 = .ok (.iload_n 1, 1) := by decide +kernel
theorem dL_isTrader_296 : decode cL_isTrader 296 = .ok (.iload 7, 2) := by decide +kernel
theorem dL_isTrader_298 : decode cL_isTrader 298 = .ok (.invokevirtual 59, 3) := by decide +kernel
theorem dL_isTrader_301 : decode cL_isTrader 301 = .ok (.iload 8, 2) := by decide +kernel
theorem dL_isTrader_303 : decode cL_isTrader 303 = .ok (.ifCond .eq 7, 3) := by decide +kernel
theorem dL_isTrader_306 : decode cL_isTrader 306 = .ok (.iconst 1, 1) := by decide +kernel
theorem dL_isTrader_307 : decode cL_isTrader 307 = .ok (.goto 31, 3) := by decide +kernel
theorem dL_isTrader_310 : decode cL_isTrader 310 = .ok (.iload 9, 2) := by decide +kernel
theorem dL_isTrader_312 : decode cL_isTrader 312 = .ok (.ifCond .ne 7, 3) := by decide +kernel
theorem dL_isTrader_315 : decode cL_isTrader 315 = .ok (.iconst 2, 1) := by decide +kernel
theorem dL_isTrader_316 : decode cL_isTrader 316 = .ok (.goto 22, 3) := by decide +kernel
theorem dL_isTrader_319 : decode cL_isTrader 319 = .ok (.iload 10, 2) := by decide +kernel
theorem dL_isTrader_321 : decode cL_isTrader 321 = .ok (.ifCond .ne 7, 3) := by decide +kernel
theorem dL_isTrader_324 : decode cL_isTrader 324 = .ok (.iconst 3, 1) := by decide +kernel
theorem dL_isTrader_325 : decode cL_isTrader 325 = .ok (.goto 13, 3) := by decide +kernel
theorem dL_isTrader_328 : decode cL_isTrader 328 = .ok (.iload 11, 2) := by decide +kernel
theorem dL_isTrader_330 : decode cL_isTrader 330 = .ok (.ifCond .ne 7, 3) := by decide +kernel
theorem dL_isTrader_333 : decode cL_isTrader 333 = .ok (.iconst 4, 1) := by decide +kernel
theorem dL_isTrader_334 : decode cL_isTrader 334 = .ok (.goto 4, 3) := by decide +kernel
theorem dL_isTrader_337 : decode cL_isTrader 337 = .ok (.iconst 0, 1) := by decide +kernel
theorem dL_isTrader_338 : decode cL_isTrader 338 = .ok (.if_icmp .ne 7, 3) := by decide +kernel
theorem dL_isTrader_341 : decode cL_isTrader 341 = .ok (.iconst 1, 1) := by decide +kernel
theorem dL_isTrader_342 : decode cL_isTrader 342 = .ok (.goto 4, 3) := by decide +kernel
theorem dL_isTrader_345 : decode cL_isTrader 345 = .ok (.iconst 0, 1) := by decide +kernel
theorem dL_isTrader_346 : decode cL_isTrader 346 = .ok (.istore 6, 2) := by decide +kernel
theorem dL_isTrader_348 : decode cL_isTrader 348 = .ok (.iinc 7 1, 3) := by decide +kernel
theorem dL_isTrader_351 : decode cL_isTrader 351 = .ok (.goto (-258), 3) := by decide +kernel
theorem dL_isTrader_354 : decode cL_isTrader 354 = .ok (.iload 6, 2) := by decide +kernel
theorem dL_isTrader_356 : decode cL_isTrader 356 = .ok (.ifCond .eq 31, 3) := by decide +kernel
theorem dL_isTrader_359 : decode cL_isTrader 359 = .ok (.aload_n 0, 1) := by decide +kernel
theorem dL_isTrader_360 : decode cL_isTrader 360 = .ok (.iload_n 1, 1) := by decide +kernel
theorem dL_isTrader_361 : decode cL_isTrader 361 = .ok (.bipush 7, 2) := by decide +kernel
theorem dL_isTrader_363 : decode cL_isTrader 363 = .ok (.invokevirtual 24, 3) := by decide +kernel
theorem dL_isTrader_366 : decode cL_isTrader 366 = .ok (.iload 4, 2) := by decide +kernel
theorem dL_isTrader_368 : decode cL_isTrader 368 = .ok (.if_icmp .ne 19, 3) := by decide +kernel
theorem dL_isTrader_371 : decode cL_isTrader 371 = .ok (.aload_n 0, 1) := by decide +kernel
theorem dL_isTrader_372 : decode cL_isTrader 372 = .ok (.iload_n 1, 1) := by decide +kernel
theorem dL_isTrader_373 : decode cL_isTrader 373 = .ok (.bipush 8, 2) := by decide +kernel
theorem dL_isTrader_375 : decode cL_isTrader 375 = .ok (.invokevirtual 24, 3) := by decide +kernel
theorem dL_isTrader_378 : decode cL_isTrader 378 = .ok (.iload 5, 2) := by decide +kernel
theorem dL_isTrader_380 : decode cL_isTrader 380 = .ok (.if_icmp .ne 7, 3) := by decide +kernel
theorem dL_isTrader_383 : decode cL_isTrader 383 = .ok (.iconst 1, 1) := by decide +kernel
theorem dL_isTrader_384 : decode cL_isTrader 384 = .ok (.goto 4, 3) := by decide +kernel
theorem dL_isTrader_387 : decode cL_isTrader 387 = .ok (.iconst 0, 1) := by decide +kernel
theorem dL_isTrader_388 : decode cL_isTrader 388 = .ok (.ireturn, 1) := by decide +kernel
theorem dL_isBest_0 : decode cL_isBest 0 = .ok (.aload_n 0, 1) := by decide +kernel
theorem dL_isBest_1 : decode cL_isBest 1 = .ok (.iconst 1, 1) := by decide +kernel
theorem dL_isBest_2 : decode cL_isBest 2 = .ok (.invokevirtual 9, 3) := by decide +kernel
theorem dL_isBest_5 : decode cL_isBest 5 = .ok (.istore_n 1, 1) := by decide +kernel
theorem dL_isBest_6 : decode cL_isBest 6 = .ok (.iconst 0, 1) := by decide +kernel
theorem dL_isBest_7 : decode cL_isBest 7 = .ok (.istore_n 2, 1) := by decide +kernel
theorem dL_isBest_8 : decode cL_isBest 8 = .ok (.iconst 0, 1) := by decide +kernel
theorem dL_isBest_9 : decode cL_isBest 9 = .ok (.istore_n 3, 1) := by decide +kernel
theorem dL_isBest_10 : decode cL_isBest 10 = .ok (.iconst 0, 1) := by decide +kernel
theorem dL_isBest_11 : decode cL_isBest 11 = .ok (.istore 4, 2) := by decide +kernel
theorem dL_isBest_13 : decode cL_isBest 13 = .ok (.iconst 1, 1) := by decide +kernel
theorem dL_isBest_14 : decode cL_isBest 14 = .ok (.istore 5, 2) := by decide +kernel
theorem dL_isBest_16 : decode cL_isBest 16 = .ok (.iconst 0, 1) := by decide +kernel
theorem dL_isBest_17 : decode cL_isBest 17 = .ok (.istore 6, 2) := by decide +kernel
theorem dL_isBest_19 : decode cL_isBest 19 = .ok (.iload 6, 2) := by decide +kernel
theorem dL_isBest_21 : decode cL_isBest 21 = .ok (.iload_n 1, 1) := by decide +kernel
theorem dL_isBest_22 : decode cL_isBest 22 = .ok (.if_icmp .ge 129, 3) := by decide +kernel
theorem dL_isBest_25 : decode cL_isBest 25 = .ok (.iload 5, 2) := by decide +kernel
theorem dL_isBest_27 : decode cL_isBest 27 = .ok (.ifCond .eq 124, 3) := by decide +kernel
theorem dL_isBest_30 : decode cL_isBest 30 = .ok (.aload_n 0, 1) := by decide +kernel
theorem dL_isBest_31 : decode cL_isBest 31 = .ok (.iload 6, 2) := by decide +kernel
theorem dL_isBest_33 : decode cL_isBest 33 = .ok (.bipush 9, 2) := by decide +kernel
theorem dL_isBest_35 : decode cL_isBest 35 = .ok (.invokevirtual 24, 3) := by decide +kernel
theorem dL_isBest_38 : decode cL_isBest 38 = .ok (.istore 7, 2) := by decide +kernel
theorem dL_isBest_40 : decode cL_isBest 40 = .ok (.iload 7, 2) := by decide +kernel
theorem dL_isBest_42 : decode cL_isBest 42 = .ok (.bipush (-4), 2) := by decide +kernel
theorem dL_isBest_44 : decode cL_isBest 44 = .ok (.if_icmp .eq 101, 3) := by decide +kernel
theorem dL_isBest_47 : decode cL_isBest 47 = .ok (.iconst 1, 1) := by decide +kernel
theorem dL_isBest_48 : decode cL_isBest 48 = .ok (.istore 8, 2) := by decide +kernel
theorem dL_isBest_50 : decode cL_isBest 50 = .ok (.iload 7, 2) := by decide +kernel
theorem dL_isBest_52 : decode cL_isBest 52 = .ok (.istore 9, 2) := by decide +kernel
theorem dL_isBest_54 : decode cL_isBest 54 = .ok (.iload 9, 2) := by decide +kernel
theorem dL_isBest_56 : decode cL_isBest 56 = .ok (.iload 6, 2) := by decide +kernel
theorem dL_isBest_58 : decode cL_isBest 58 = .ok (.if_icmp .eq 31, 3) := by decide +kernel
theorem dL_isBest_61 : decode cL_isBest 61 = .ok (.iload 8, 2) := by decide +kernel
theorem dL_isBest_63 : decode cL_isBest 63 = .ok (.bipush 9, 2) := by decide +kernel
theorem dL_isBest_65 : decode cL_isBest 65 = .ok (.if_icmp .ge 24, 3) := by decide +kernel
theorem dL_isBest_68 : decode cL_isBest 68 = .ok (.iload 9, 2) := by decide +kernel
theorem dL_isBest_70 : decode cL_isBest 70 = .ok (.ifCond .lt 19, 3) := by decide +kernel
theorem dL_isBest_73 : decode cL_isBest 73 = .ok (.iinc 8 1, 3) := by decide +kernel
theorem dL_isBest_76 : decode cL_isBest 76 = .ok (.aload_n 0, 1) := by decide +kernel
theorem dL_isBest_77 : decode cL_isBest 77 = .ok (.iload 9, 2) := by decide +kernel
theorem dL_isBest_79 : decode cL_isBest 79 = .ok (.bipush 9, 2) := by decide +kernel
theorem dL_isBest_81 : decode cL_isBest 81 = .ok (.invokevirtual 24, 3) := by decide +kernel
theorem dL_isBest_84 : decode cL_isBest 84 = .ok (.istore 9, 2) := by decide +kernel
theorem dL_isBest_86 : decode cL_isBest 86 = .ok (.goto (-32), 3) := by decide +kernel
theorem dL_isBest_89 : decode cL_isBest 89 = .ok (.aload_n 0, 1) := by decide +kernel
theorem dL_isBest_90 : decode cL_isBest 90 = .ok (.iload 6, 2) := by decide +kernel
theorem dL_isBest_92 : decode cL_isBest 92 = .ok (.iload 7, 2) := by decide +kernel
theorem dL_isBest_94 : decode cL_isBest 94 = .ok (.invokevirtual 65, 3) := by decide +kernel
theorem dL_isBest_97 : decode cL_isBest 97 = .ok (.iconst 1, 1) := by decide +kernel
theorem dL_isBest_98 : decode cL_isBest 98 = .ok (.if_icmp .ne 27, 3) := by decide +kernel
theorem dL_isBest_101 : decode cL_isBest 101 = .ok (.iload_n 3, 1) := by decide +kernel
theorem dL_isBest_102 : decode cL_isBest 102 = .ok (.iload 7, 2) := by decide +kernel
theorem dL_isBest_104 : decode cL_isBest 104 = .ok (.ishr, 1) := by decide +kernel
theorem dL_isBest_105 : decode cL_isBest 105 = .ok (.iconst 1, 1) := by decide +kernel
theorem dL_isBest_106 : decode cL_isBest 106 = .ok (.iand, 1) := by decide +kernel
theorem dL_isBest_107 : decode cL_isBest 107 = .ok (.ifCond .ne 18, 3) := by decide +kernel
theorem dL_isBest_110 : decode cL_isBest 110 = .ok (.iload 8, 2) := by decide +kernel
theorem dL_isBest_112 : decode cL_isBest 112 = .ok (.aload_n 0, 1) := by decide +kernel
theorem dL_isBest_113 : decode cL_isBest 113 = .ok (.bipush 11, 2) := by decide +kernel
theorem dL_isBest_115 : decode cL_isBest 115 = .ok (.invokevirtual 9, 3) := by decide +kernel
theorem dL_isBest_118 : decode cL_isBest 118 = .ok (.if_icmp .gt 7, 3) := by decide +kernel
theorem dL_isBest_121 : decode cL_isBest 121 = .ok (.iconst 1, 1) := by decide +kernel
theorem dL_isBest_122 : decode cL_isBest 122 = .ok (.goto 4, 3) := by decide +kernel
theorem dL_isBest_125 : decode cL_isBest 125 = .ok (.iconst 0, 1) := by decide +kernel
theorem dL_isBest_126 : decode cL_isBest 126 = .ok (.istore 5, 2) := by decide +kernel
theorem dL_isBest_128 : decode cL_isBest 128 = .ok (.iload_n 2, 1) := by decide +kernel
theorem dL_isBest_129 : decode cL_isBest 129 = .ok (.iconst 1, 1) := by decide +kernel
theorem dL_isBest_130 : decode cL_isBest 130 = .ok (.iload 6, 2) := by decide +kernel
theorem dL_isBest_132 : decode cL_isBest 132 = .ok (.ishl, 1) := by decide +kernel
theorem dL_isBest_133 : decode cL_isBest 133 = .ok (.ior, 1) := by decide +kernel
theorem dL_isBest_134 : decode cL_isBest 134 = .ok (.istore_n 2, 1) := by decide +kernel
theorem dL_isBest_135 : decode cL_isBest 135 = .ok (.iload_n 3, 1) := by decide +kernel
theorem dL_isBest_136 : decode cL_isBest 136 = .ok (.iconst 1, 1) := by decide +kernel
theorem dL_isBest_137 : decode cL_isBest 137 = .ok (.iload 7, 2) := by decide +kernel
theorem dL_isBest_139 : decode cL_isBest 139 = .ok (.ishl, 1) := by decide +kernel
theorem dL_isBest_140 : decode cL_isBest 140 = .ok (.ior, 1) := by decide +kernel
theorem dL_isBest_141 : decode cL_isBest 141 = .ok (.istore_n 3, 1) := by decide +kernel
theorem dL_isBest_142 : decode cL_isBest 142 = .ok (.iinc 4 1, 3) := by decide +kernel
theorem dL_isBest_145 : decode cL_isBest 145 = .ok (.iinc 6 1, 3) := by decide +kernel
theorem dL_isBest_148 : decode cL_isBest 148 = .ok (.goto (-129), 3) := by decide +kernel
theorem dL_isBest_151 : decode cL_isBest 151 = .ok (.iconst 0, 1) := by decide +kernel
theorem dL_isBest_152 : decode cL_isBest 152 = .ok (.istore 6, 2) := by decide +kernel
theorem dL_isBest_154 : decode cL_isBest 154 = .ok (.iload 6, 2) := by decide +kernel
theorem dL_isBest_156 : decode cL_isBest 156 = .ok (.iload_n 1, 1) := by decide +kernel
theorem dL_isBest_157 : decode cL_isBest 157 = .ok (.if_icmp .ge 84, 3) := by decide +kernel
theorem dL_isBest_160 : decode cL_isBest 160 = .ok (.iload 5, 2) := by decide +kernel
theorem dL_isBest_162 : decode cL_isBest 162 = .ok (.ifCond .eq 79, 3) := by decide +kernel
theorem dL_isBest_165 : decode cL_isBest 165 = .ok (.iconst 0, 1) := by decide +kernel
theorem dL_isBest_166 : decode cL_isBest 166 = .ok (.istore 7, 2) := by decide +kernel
theorem dL_isBest_168 : decode cL_isBest 168 = .ok (.iload 7, 2) := by decide +kernel
theorem dL_isBest_170 : decode cL_isBest 170 = .ok (.iload 6, 2) := by decide +kernel
theorem dL_isBest_172 : decode cL_isBest 172 = .ok (.if_icmp .ge 63, 3) := by decide +kernel
theorem dL_isBest_175 : decode cL_isBest 175 = .ok (.iload 5, 2) := by decide +kernel
theorem dL_isBest_177 : decode cL_isBest 177 = .ok (.ifCond .eq 49, 3) := by decide +kernel
theorem dL_isBest_180 : decode cL_isBest 180 = .ok (.iload_n 2, 1) := by decide +kernel
theorem dL_isBest_181 : decode cL_isBest 181 = .ok (.iload 6, 2) := by decide +kernel
theorem dL_isBest_183 : decode cL_isBest 183 = .ok (.ishr, 1) := by decide +kernel
theorem dL_isBest_184 : decode cL_isBest 184 = .ok (.iconst 1, 1) := by decide +kernel
theorem dL_isBest_185 : decode cL_isBest 185 = .ok (.iand, 1) := by decide +kernel
theorem dL_isBest_186 : decode cL_isBest 186 = .ok (.iconst 1, 1) := by decide +kernel
theorem dL_isBest_187 : decode cL_isBest 187 = .ok (.if_icmp .eq 35, 3) := by decide +kernel
theorem dL_isBest_190 : decode cL_isBest 190 = .ok (.iload_n 2, 1) := by decide +kernel
theorem dL_isBest_191 : decode cL_isBest 191 = .ok (.iload 7, 2) := by decide +kernel
theorem dL_isBest_193 : decode cL_isBest 193 = .ok (.ishr, 1) := by decide +kernel
theorem dL_isBest_194 : decode cL_isBest 194 = .ok (.iconst 1, 1) := by decide +kernel
theorem dL_isBest_195 : decode cL_isBest 195 = .ok (.iand, 1) := by decide +kernel
theorem dL_isBest_196 : decode cL_isBest 196 = .ok (.iconst 1, 1) := by decide +kernel
theorem dL_isBest_197 : decode cL_isBest 197 = .ok (.if_icmp .eq 25, 3) := by decide +kernel
theorem dL_isBest_200 : decode cL_isBest 200 = .ok (.aload_n 0, 1) := by decide +kernel
theorem dL_isBest_201 : decode cL_isBest 201 = .ok (.iload 6, 2) := by decide +kernel
theorem dL_isBest_203 : decode cL_isBest 203 = .ok (.iload 7, 2) := by decide +kernel
theorem dL_isBest_205 : decode cL_isBest 205 = .ok (.invokevirtual 65, 3) := by decide +kernel
theorem dL_isBest_208 : decode cL_isBest 208 = .ok (.ifCond .eq 14, 3) := by decide +kernel
theorem dL_isBest_211 : decode cL_isBest 211 = .ok (.aload_n 0, 1) := by decide +kernel
theorem dL_isBest_212 : decode cL_isBest 212 = .ok (.iload 7, 2) := by decide +kernel
theorem dL_isBest_214 : decode cL_isBest 214 = .ok (.iload 6, 2) := by decide +kernel
theorem dL_isBest_216 : decode cL_isBest 216 = .ok (.invokevirtual 65, 3) := by decide +kernel
theorem dL_isBest_219 : decode cL_isBest 219 = .ok (.ifCond .ne 7, 3) := by decide +kernel
theorem dL_isBest_222 : decode cL_isBest 222 = .ok (.iconst 1, 1) := by decide +kernel
theorem dL_isBest_223 : decode cL_isBest 223 = .ok (.goto 4, 3) := by decide +kernel
theorem dL_isBest_226 : decode cL_isBest 226 = .ok (.iconst 0, 1) := by decide +kernel
theorem dL_isBest_227 : decode cL_isBest 227 = .ok (.istore 5, 2) := by decide +kernel
theorem dL_isBest_229 : decode cL_isBest 229 = .ok (.iinc 7 1, 3) := by decide +kernel
theorem dL_isBest_232 : decode cL_isBest 232 = .ok (.goto (-64), 3) := by decide +kernel
theorem dL_isBest_235 : decode cL_isBest 235 = .ok (.iinc 6 1, 3) := by decide +kernel
theorem dL_isBest_238 : decode cL_isBest 238 = .ok (.goto (-84), 3) := by decide +kernel
theorem dL_isBest_241 : decode cL_isBest 241 = .ok (.iload 5, 2) := by decide +kernel
theorem dL_isBest_243 : decode cL_isBest 243 = .ok (.ifCond .eq 68, 3) := by decide +kernel
theorem dL_isBest_246 : decode cL_isBest 246 = .ok (.iload_n 2, 1) := by decide +kernel
theorem dL_isBest_247 : decode cL_isBest 247 = .ok (.iload_n 3, 1) := by decide +kernel
theorem dL_isBest_248 : decode cL_isBest 248 = .ok (.if_icmp .ne 63, 3) := by decide +kernel
theorem dL_isBest_251 : decode cL_isBest 251 = .ok (.iload 4, 2) := by decide +kernel
theorem dL_isBest_253 : decode cL_isBest 253 = .ok (.aload_n 0, 1) := by decide +kernel
theorem dL_isBest_254 : decode cL_isBest 254 = .ok (.iconst 0, 1) := by decide +kernel
theorem dL_isBest_255 : decode cL_isBest 255 = .ok (.invokevirtual 49, 3) := by decide +kernel
theorem dL_isBest_258 : decode cL_isBest 258 = .ok (.if_icmp .ne 53, 3) := by decide +kernel
theorem dL_isBest_261 : decode cL_isBest 261 = .ok (.iload 4, 2) := by decide +kernel
theorem dL_isBest_263 : decode cL_isBest 263 = .ok (.aload_n 0, 1) := by decide +kernel
theorem dL_isBest_264 : decode cL_isBest 264 = .ok (.iconst 1, 1) := by decide +kernel
theorem dL_isBest_265 : decode cL_isBest 265 = .ok (.invokevirtual 49, 3) := by decide +kernel
theorem dL_isBest_268 : decode cL_isBest 268 = .ok (.if_icmp .ne 43, 3) := by decide +kernel
theorem dL_isBest_271 : decode cL_isBest 271 = .ok (.aload_n 0, 1) := by decide +kernel
theorem dL_isBest_272 : decode cL_isBest 272 = .ok (.aload_n 0, 1) := by decide +kernel
theorem dL_isBest_273 : decode cL_isBest 273 = .ok (.bipush 11, 2) := by decide +kernel
theorem dL_isBest_275 : decode cL_isBest 275 = .ok (.invokevirtual 9, 3) := by decide +kernel
theorem dL_isBest_278 : decode cL_isBest 278 = .ok (.invokevirtual 68, 3) := by decide +kernel
theorem dL_isBest_281 : decode cL_isBest 281 = .ok (.iload 4, 2) := by decide +kernel
theorem dL_isBest_283 : decode cL_isBest 283 = .ok (.if_icmp .ne 28, 3) := by decide +kernel
theorem dL_isBest_286 : decode cL_isBest 286 = .ok (.aload_n 0, 1) := by decide +kernel
theorem dL_isBest_287 : decode cL_isBest 287 = .ok (.bipush 7, 2) := by decide +kernel
theorem dL_isBest_289 : decode cL_isBest 289 = .ok (.invokevirtual 68, 3) := by decide +kernel
theorem dL_isBest_292 : decode cL_isBest 292 = .ok (.iload 4, 2) := by decide +kernel
theorem dL_isBest_294 : decode cL_isBest 294 = .ok (.if_icmp .lt 17, 3) := by decide +kernel
theorem dL_isBest_297 : decode cL_isBest 297 = .ok (.aload_n 0, 1) := by decide +kernel
theorem dL_isBest_298 : decode cL_isBest 298 = .ok (.iconst 2, 1) := by decide +kernel
theorem dL_isBest_299 : decode cL_isBest 299 = .ok (.invokevirtual 68, 3) := by decide +kernel
theorem dL_isBest_302 : decode cL_isBest 302 = .ok (.iload 4, 2) := by decide +kernel
theorem dL_isBest_304 : decode cL_isBest 304 = .ok (.if_icmp .gt 7, 3) := by decide +kernel
theorem dL_isBest_307 : decode cL_isBest 307 = .ok (.iconst 1, 1) := by decide +kernel
theorem dL_isBest_308 : decode cL_isBest 308 = .ok (.goto 4, 3) := by decide +kernel
theorem dL_isBest_311 : decode cL_isBest 311 = .ok (.iconst 0, 1) := by decide +kernel
theorem dL_isBest_312 : decode cL_isBest 312 = .ok (.ireturn, 1) := by decide +kernel
theorem dL_holds_0 : decode cL_holds 0 = .ok (.aload_n 0, 1) := by decide +kernel
theorem dL_holds_1 : decode cL_holds 1 = .ok (.iconst 1, 1) := by decide +kernel
theorem dL_holds_2 : decode cL_holds 2 = .ok (.invokevirtual 9, 3) := by decide +kernel
theorem dL_holds_5 : decode cL_holds 5 = .ok (.istore_n 1, 1) := by decide +kernel
theorem dL_holds_6 : decode cL_holds 6 = .ok (.iconst 0, 1) := by decide +kernel
theorem dL_holds_7 : decode cL_holds 7 = .ok (.istore_n 2, 1) := by decide +kernel
theorem dL_holds_8 : decode cL_holds 8 = .ok (.iconst 0, 1) := by decide +kernel
theorem dL_holds_9 : decode cL_holds 9 = .ok (.istore_n 3, 1) := by decide +kernel
theorem dL_holds_10 : decode cL_holds 10 = .ok (.iconst 0, 1) := by decide +kernel
theorem dL_holds_11 : decode cL_holds 11 = .ok (.istore 4, 2) := by decide +kernel
theorem dL_holds_13 : decode cL_holds 13 = .ok (.iconst 0, 1) := by decide +kernel
theorem dL_holds_14 : decode cL_holds 14 = .ok (.istore 5, 2) := by decide +kernel
theorem dL_holds_16 : decode cL_holds 16 = .ok (.iconst 0, 1) := by decide +kernel
theorem dL_holds_17 : decode cL_holds 17 = .ok (.istore 6, 2) := by decide +kernel
theorem dL_holds_19 : decode cL_holds 19 = .ok (.aload_n 0, 1) := by decide +kernel
theorem dL_holds_20 : decode cL_holds 20 = .ok (.iload_n 1, 1) := by decide +kernel
theorem dL_holds_21 : decode cL_holds 21 = .ok (.iconst 0, 1) := by decide +kernel
theorem dL_holds_22 : decode cL_holds 22 = .ok (.invokevirtual 24, 3) := by decide +kernel
theorem dL_holds_25 : decode cL_holds 25 = .ok (.iconst (-1), 1) := by decide +kernel
theorem dL_holds_26 : decode cL_holds 26 = .ok (.if_icmp .ne 7, 3) := by decide +kernel
theorem dL_holds_29 : decode cL_holds 29 = .ok (.iconst 1, 1) := by decide +kernel
theorem dL_holds_30 : decode cL_holds 30 = .ok (.goto 4, 3) := by decide +kernel
theorem dL_holds_33 : decode cL_holds 33 = .ok (.iconst 0, 1) := by decide +kernel
theorem dL_holds_34 : decode cL_holds 34 = .ok (.istore 7, 2) := by decide +kernel
theorem dL_holds_36 : decode cL_holds 36 = .ok (.iconst 0, 1) := by decide +kernel
theorem dL_holds_37 : decode cL_holds 37 = .ok (.istore 8, 2) := by decide +kernel
theorem dL_holds_39 : decode cL_holds 39 = .ok (.iload 8, 2) := by decide +kernel
theorem dL_holds_41 : decode cL_holds 41 = .ok (.iload_n 1, 1) := by decide +kernel
theorem dL_holds_42 : decode cL_holds 42 = .ok (.if_icmp .ge 114, 3) := by decide +kernel
theorem dL_holds_45 : decode cL_holds 45 = .ok (.iload 7, 2) := by decide +kernel
theorem dL_holds_47 : decode cL_holds 47 = .ok (.ifCond .eq 109, 3) := by decide +kernel
theorem dL_holds_50 : decode cL_holds 50 = .ok (.aload_n 0, 1) := by decide +kernel
theorem dL_holds_51 : decode cL_holds 51 = .ok (.iload 8, 2) := by decide +kernel
theorem dL_holds_53 : decode cL_holds 53 = .ok (.invokestatic 71, 3) := by decide +kernel
theorem dL_holds_56 : decode cL_holds 56 = .ok (.istore 7, 2) := by decide +kernel
theorem dL_holds_58 : decode cL_holds 58 = .ok (.iconst 0, 1) := by decide +kernel
theorem dL_holds_59 : decode cL_holds 59 = .ok (.istore 9, 2) := by decide +kernel
theorem dL_holds_61 : decode cL_holds 61 = .ok (.iload 9, 2) := by decide +kernel
theorem dL_holds_63 : decode cL_holds 63 = .ok (.bipush 6, 2) := by decide +kernel
theorem dL_holds_65 : decode cL_holds 65 = .ok (.if_icmp .ge 24, 3) := by decide +kernel
theorem dL_holds_68 : decode cL_holds 68 = .ok (.iload_n 2, 1) := by decide +kernel
theorem dL_holds_69 : decode cL_holds 69 = .ok (.aload_n 0, 1) := by decide +kernel
theorem dL_holds_70 : decode cL_holds 70 = .ok (.iload 8, 2) := by decide +kernel
theorem dL_holds_72 : decode cL_holds 72 = .ok (.iconst 1, 1) := by decide +kernel
theorem dL_holds_73 : decode cL_holds 73 = .ok (.invokevirtual 24, 3) := by decide +kernel
theorem dL_holds_76 : decode cL_holds 76 = .ok (.iload 9, 2) := by decide +kernel
theorem dL_holds_78 : decode cL_holds 78 = .ok (.ishr, 1) := by decide +kernel
theorem dL_holds_79 : decode cL_holds 79 = .ok (.iconst 1, 1) := by decide +kernel
theorem dL_holds_80 : decode cL_holds 80 = .ok (.iand, 1) := by decide +kernel
theorem dL_holds_81 : decode cL_holds 81 = .ok (.iadd, 1) := by decide +kernel
theorem dL_holds_82 : decode cL_holds 82 = .ok (.istore_n 2, 1) := by decide +kernel
theorem dL_holds_83 : decode cL_holds 83 = .ok (.iinc 9 1, 3) := by decide +kernel
theorem dL_holds_86 : decode cL_holds 86 = .ok (.goto (-25), 3) := by decide +kernel
theorem dL_holds_89 : decode cL_holds 89 = .ok (.iload_n 3, 1) := by decide +kernel
theorem dL_holds_90 : decode cL_holds 90 = .ok (.aload_n 0, 1) := by decide +kernel
theorem dL_holds_91 : decode cL_holds 91 = .ok (.iload 8, 2) := by decide +kernel
theorem dL_holds_93 : decode cL_holds 93 = .ok (.iconst 4, 1) := by decide +kernel
theorem dL_holds_94 : decode cL_holds 94 = .ok (.invokevirtual 24, 3) := by decide +kernel
theorem dL_holds_97 : decode cL_holds 97 = .ok (.ifCond .ne 7, 3) := by decide +kernel
theorem dL_holds_100 : decode cL_holds 100 = .ok (.iconst 1, 1) := by decide +kernel
theorem dL_holds_101 : decode cL_holds 101 = .ok (.goto 4, 3) := by decide +kernel
theorem dL_holds_104 : decode cL_holds 104 = .ok (.iconst 0, 1) := by decide +kernel
theorem dL_holds_105 : decode cL_holds 105 = .ok (.iadd, 1) := by decide +kernel
theorem dL_holds_106 : decode cL_holds 106 = .ok (.istore_n 3, 1) := by decide +kernel
theorem dL_holds_107 : decode cL_holds 107 = .ok (.iload 6, 2) := by decide +kernel
theorem dL_holds_109 : decode cL_holds 109 = .ok (.aload_n 0, 1) := by decide +kernel
theorem dL_holds_110 : decode cL_holds 110 = .ok (.iload 8, 2) := by decide +kernel
theorem dL_holds_112 : decode cL_holds 112 = .ok (.iconst 4, 1) := by decide +kernel
theorem dL_holds_113 : decode cL_holds 113 = .ok (.invokevirtual 24, 3) := by decide +kernel
theorem dL_holds_116 : decode cL_holds 116 = .ok (.iadd, 1) := by decide +kernel
theorem dL_holds_117 : decode cL_holds 117 = .ok (.istore 6, 2) := by decide +kernel
theorem dL_holds_119 : decode cL_holds 119 = .ok (.iload 4, 2) := by decide +kernel
theorem dL_holds_121 : decode cL_holds 121 = .ok (.aload_n 0, 1) := by decide +kernel
theorem dL_holds_122 : decode cL_holds 122 = .ok (.iload 8, 2) := by decide +kernel
theorem dL_holds_124 : decode cL_holds 124 = .ok (.iconst 1, 1) := by decide +kernel
theorem dL_holds_125 : decode cL_holds 125 = .ok (.invokevirtual 24, 3) := by decide +kernel
theorem dL_holds_128 : decode cL_holds 128 = .ok (.ifCond .le 18, 3) := by decide +kernel
theorem dL_holds_131 : decode cL_holds 131 = .ok (.aload_n 0, 1) := by decide +kernel
theorem dL_holds_132 : decode cL_holds 132 = .ok (.iload 8, 2) := by decide +kernel
theorem dL_holds_134 : decode cL_holds 134 = .ok (.bipush 7, 2) := by decide +kernel
theorem dL_holds_136 : decode cL_holds 136 = .ok (.invokevirtual 24, 3) := by decide +kernel
theorem dL_holds_139 : decode cL_holds 139 = .ok (.ifCond .ne 7, 3) := by decide +kernel
theorem dL_holds_142 : decode cL_holds 142 = .ok (.iconst 1, 1) := by decide +kernel
theorem dL_holds_143 : decode cL_holds 143 = .ok (.goto 4, 3) := by decide +kernel
theorem dL_holds_146 : decode cL_holds 146 = .ok (.iconst 0, 1) := by decide +kernel
theorem dL_holds_147 : decode cL_holds 147 = .ok (.iadd, 1) := by decide +kernel
theorem dL_holds_148 : decode cL_holds 148 = .ok (.istore 4, 2) := by decide +kernel
theorem dL_holds_150 : decode cL_holds 150 = .ok (.iinc 8 1, 3) := by decide +kernel
theorem dL_holds_153 : decode cL_holds 153 = .ok (.goto (-114), 3) := by decide +kernel
theorem dL_holds_156 : decode cL_holds 156 = .ok (.iconst 0, 1) := by decide +kernel
theorem dL_holds_157 : decode cL_holds 157 = .ok (.istore 8, 2) := by decide +kernel
theorem dL_holds_159 : decode cL_holds 159 = .ok (.iload 8, 2) := by decide +kernel
theorem dL_holds_161 : decode cL_holds 161 = .ok (.bipush 6, 2) := by decide +kernel
theorem dL_holds_163 : decode cL_holds 163 = .ok (.if_icmp .ge 166, 3) := by decide +kernel
theorem dL_holds_166 : decode cL_holds 166 = .ok (.iload 7, 2) := by decide +kernel
theorem dL_holds_168 : decode cL_holds 168 = .ok (.ifCond .eq 161, 3) := by decide +kernel
theorem dL_holds_171 : decode cL_holds 171 = .ok (.iconst 0, 1) := by decide +kernel
theorem dL_holds_172 : decode cL_holds 172 = .ok (.istore 9, 2) := by decide +kernel
theorem dL_holds_174 : decode cL_holds 174 = .ok (.iconst 0, 1) := by decide +kernel
theorem dL_holds_175 : decode cL_holds 175 = .ok (.istore 10, 2) := by decide +kernel
theorem dL_holds_177 : decode cL_holds 177 = .ok (.iconst 0, 1) := by decide +kernel
theorem dL_holds_178 : decode cL_holds 178 = .ok (.istore 11, 2) := by decide +kernel
theorem dL_holds_180 : decode cL_holds 180 = .ok (.iconst 0, 1) := by decide +kernel
theorem dL_holds_181 : decode cL_holds 181 = .ok (.istore 12, 2) := by decide +kernel
theorem dL_holds_183 : decode cL_holds 183 = .ok (.iload 12, 2) := by decide +kernel
theorem dL_holds_185 : decode cL_holds 185 = .ok (.iload_n 1, 1) := by decide +kernel
theorem dL_holds_186 : decode cL_holds 186 = .ok (.if_icmp .ge 70, 3) := by decide +kernel
theorem dL_holds_189 : decode cL_holds 189 = .ok (.iload 9, 2) := by decide +kernel
theorem dL_holds_191 : decode cL_holds 191 = .ok (.aload_n 0, 1) := by decide +kernel
theorem dL_holds_192 : decode cL_holds 192 = .ok (.iload 12, 2) := by decide +kernel
theorem dL_holds_194 : decode cL_holds 194 = .ok (.iconst 2, 1) := by decide +kernel
theorem dL_holds_195 : decode cL_holds 195 = .ok (.invokevirtual 24, 3) := by decide +kernel
theorem dL_holds_198 : decode cL_holds 198 = .ok (.iload 8, 2) := by decide +kernel
theorem dL_holds_200 : decode cL_holds 200 = .ok (.if_icmp .ne 7, 3) := by decide +kernel
theorem dL_holds_203 : decode cL_holds 203 = .ok (.iconst 1, 1) := by decide +kernel
theorem dL_holds_204 : decode cL_holds 204 = .ok (.goto 4, 3) := by decide +kernel
theorem dL_holds_207 : decode cL_holds 207 = .ok (.iconst 0, 1) := by decide +kernel
theorem dL_holds_208 : decode cL_holds 208 = .ok (.iadd, 1) := by decide +kernel
theorem dL_holds_209 : decode cL_holds 209 = .ok (.istore 9, 2) := by decide +kernel
theorem dL_holds_211 : decode cL_holds 211 = .ok (.iload 10, 2) := by decide +kernel
theorem dL_holds_213 : decode cL_holds 213 = .ok (.aload_n 0, 1) := by decide +kernel
theorem dL_holds_214 : decode cL_holds 214 = .ok (.iload 12, 2) := by decide +kernel
theorem dL_holds_216 : decode cL_holds 216 = .ok (.iconst 0, 1) := by decide +kernel
theorem dL_holds_217 : decode cL_holds 217 = .ok (.invokevirtual 24, 3) := by decide +kernel
theorem dL_holds_220 : decode cL_holds 220 = .ok (.iload 8, 2) := by decide +kernel
theorem dL_holds_222 : decode cL_holds 222 = .ok (.if_icmp .ne 7, 3) := by decide +kernel
theorem dL_holds_225 : decode cL_holds 225 = .ok (.iconst 1, 1) := by decide +kernel
theorem dL_holds_226 : decode cL_holds 226 = .ok (.goto 4, 3) := by decide +kernel
theorem dL_holds_229 : decode cL_holds 229 = .ok (.iconst 0, 1) := by decide +kernel
theorem dL_holds_230 : decode cL_holds 230 = .ok (.iadd, 1) := by decide +kernel
theorem dL_holds_231 : decode cL_holds 231 = .ok (.istore 10, 2) := by decide +kernel
theorem dL_holds_233 : decode cL_holds 233 = .ok (.iload 11, 2) := by decide +kernel
theorem dL_holds_235 : decode cL_holds 235 = .ok (.aload_n 0, 1) := by decide +kernel
theorem dL_holds_236 : decode cL_holds 236 = .ok (.iload 12, 2) := by decide +kernel
theorem dL_holds_238 : decode cL_holds 238 = .ok (.iconst 1, 1) := by decide +kernel
theorem dL_holds_239 : decode cL_holds 239 = .ok (.invokevirtual 24, 3) := by decide +kernel
theorem dL_holds_242 : decode cL_holds 242 = .ok (.iload 8, 2) := by decide +kernel
theorem dL_holds_244 : decode cL_holds 244 = .ok (.ishr, 1) := by decide +kernel
theorem dL_holds_245 : decode cL_holds 245 = .ok (.iconst 1, 1) := by decide +kernel
theorem dL_holds_246 : decode cL_holds 246 = .ok (.iand, 1) := by decide +kernel
theorem dL_holds_247 : decode cL_holds 247 = .ok (.iadd, 1) := by decide +kernel
theorem dL_holds_248 : decode cL_holds 248 = .ok (.istore 11, 2) := by decide +kernel
theorem dL_holds_250 : decode cL_holds 250 = .ok (.iinc 12 1, 3) := by decide +kernel
theorem dL_holds_253 : decode cL_holds 253 = .ok (.goto (-70), 3) := by decide +kernel
theorem dL_holds_256 : decode cL_holds 256 = .ok (.iload 5, 2) := by decide +kernel
theorem dL_holds_258 : decode cL_holds 258 = .ok (.aload_n 0, 1) := by decide +kernel
theorem dL_holds_259 : decode cL_holds 259 = .ok (.iload 8, 2) := by decide +kernel
theorem dL_holds_261 : decode cL_holds 261 = .ok (.iconst 5, 1) := by decide +kernel
theorem dL_holds_262 : decode cL_holds 262 = .ok (.invokevirtual 33, 3) := by decide +kernel
theorem dL_holds_265 : decode cL_holds 265 = .ok (.iadd, 1) := by decide +kernel
theorem dL_holds_266 : decode cL_holds 266 = .ok (.istore 5, 2) := by decide +kernel
theorem dL_holds_268 : decode cL_holds 268 = .ok (.aload_n 0, 1) := by decide +kernel
theorem dL_holds_269 : decode cL_holds 269 = .ok (.iload 8, 2) := by decide +kernel
theorem dL_holds_271 : decode cL_holds 271 = .ok (.iconst 1, 1) := by decide +kernel
theorem dL_holds_272 : decode cL_holds 272 = .ok (.invokevirtual 33, 3) := by decide +kernel
theorem dL_holds_275 : decode cL_holds 275 = .ok (.iload 9, 2) := by decide +kernel
theorem dL_holds_277 : decode cL_holds 277 = .ok (.if_icmp .ne 43, 3) := by decide +kernel
theorem dL_holds_280 : decode cL_holds 280 = .ok (.aload_n 0, 1) := by decide +kernel
theorem dL_holds_281 : decode cL_holds 281 = .ok (.iload 8, 2) := by decide +kernel
theorem dL_holds_283 : decode cL_holds 283 = .ok (.iconst 2, 1) := by decide +kernel
theorem dL_holds_284 : decode cL_holds 284 = .ok (.invokevirtual 33, 3) := by decide +kernel
theorem dL_holds_287 : decode cL_holds 287 = .ok (.iload 9, 2) := by decide +kernel
theorem dL_holds_289 : decode cL_holds 289 = .ok (.if_icmp .gt 31, 3) := by decide +kernel
theorem dL_holds_292 : decode cL_holds 292 = .ok (.aload_n 0, 1) := by decide +kernel
theorem dL_holds_293 : decode cL_holds 293 = .ok (.iload 8, 2) := by decide +kernel
theorem dL_holds_295 : decode cL_holds 295 = .ok (.iconst 3, 1) := by decide +kernel
theorem dL_holds_296 : decode cL_holds 296 = .ok (.invokevirtual 33, 3) := by decide +kernel
theorem dL_holds_299 : decode cL_holds 299 = .ok (.iload 11, 2) := by decide +kernel
theorem dL_holds_301 : decode cL_holds 301 = .ok (.if_icmp .ne 19, 3) := by decide +kernel
theorem dL_holds_304 : decode cL_holds 304 = .ok (.aload_n 0, 1) := by decide +kernel
theorem dL_holds_305 : decode cL_holds 305 = .ok (.iload 8, 2) := by decide +kernel
theorem dL_holds_307 : decode cL_holds 307 = .ok (.iconst 4, 1) := by decide +kernel
theorem dL_holds_308 : decode cL_holds 308 = .ok (.invokevirtual 33, 3) := by decide +kernel
theorem dL_holds_311 : decode cL_holds 311 = .ok (.iload 10, 2) := by decide +kernel
theorem dL_holds_313 : decode cL_holds 313 = .ok (.if_icmp .ne 7, 3) := by decide +kernel
theorem dL_holds_316 : decode cL_holds 316 = .ok (.iconst 1, 1) := by decide +kernel
theorem dL_holds_317 : decode cL_holds 317 = .ok (.goto 4, 3) := by decide +kernel
theorem dL_holds_320 : decode cL_holds 320 = .ok (.iconst 0, 1) := by decide +kernel
theorem dL_holds_321 : decode cL_holds 321 = .ok (.istore 7, 2) := by decide +kernel
theorem dL_holds_323 : decode cL_holds 323 = .ok (.iinc 8 1, 3) := by decide +kernel
theorem dL_holds_326 : decode cL_holds 326 = .ok (.goto (-167), 3) := by decide +kernel
theorem dL_holds_329 : decode cL_holds 329 = .ok (.iload 7, 2) := by decide +kernel
theorem dL_holds_331 : decode cL_holds 331 = .ok (.ifCond .eq 64, 3) := by decide +kernel
theorem dL_holds_334 : decode cL_holds 334 = .ok (.iload_n 2, 1) := by decide +kernel
theorem dL_holds_335 : decode cL_holds 335 = .ok (.aload_n 0, 1) := by decide +kernel
theorem dL_holds_336 : decode cL_holds 336 = .ok (.iconst 2, 1) := by decide +kernel
theorem dL_holds_337 : decode cL_holds 337 = .ok (.invokevirtual 9, 3) := by decide +kernel
theorem dL_holds_340 : decode cL_holds 340 = .ok (.if_icmp .ne 55, 3) := by decide +kernel
theorem dL_holds_343 : decode cL_holds 343 = .ok (.iload 5, 2) := by decide +kernel
theorem dL_holds_345 : decode cL_holds 345 = .ok (.aload_n 0, 1) := by decide +kernel
theorem dL_holds_346 : decode cL_holds 346 = .ok (.iconst 3, 1) := by decide +kernel
theorem dL_holds_347 : decode cL_holds 347 = .ok (.invokevirtual 9, 3) := by decide +kernel
theorem dL_holds_350 : decode cL_holds 350 = .ok (.if_icmp .ne 45, 3) := by decide +kernel
theorem dL_holds_353 : decode cL_holds 353 = .ok (.iload_n 1, 1) := by decide +kernel
theorem dL_holds_354 : decode cL_holds 354 = .ok (.iload_n 3, 1) := by decide +kernel
theorem dL_holds_355 : decode cL_holds 355 = .ok (.isub, 1) := by decide +kernel
theorem dL_holds_356 : decode cL_holds 356 = .ok (.aload_n 0, 1) := by decide +kernel
theorem dL_holds_357 : decode cL_holds 357 = .ok (.iconst 4, 1) := by decide +kernel
theorem dL_holds_358 : decode cL_holds 358 = .ok (.invokevirtual 9, 3) := by decide +kernel
theorem dL_holds_361 : decode cL_holds 361 = .ok (.if_icmp .ne 34, 3) := by decide +kernel
theorem dL_holds_364 : decode cL_holds 364 = .ok (.iload_n 3, 1) := by decide +kernel
theorem dL_holds_365 : decode cL_holds 365 = .ok (.aload_n 0, 1) := by decide +kernel
theorem dL_holds_366 : decode cL_holds 366 = .ok (.iconst 5, 1) := by decide +kernel
theorem dL_holds_367 : decode cL_holds 367 = .ok (.invokevirtual 9, 3) := by decide +kernel
theorem dL_holds_370 : decode cL_holds 370 = .ok (.if_icmp .ne 25, 3) := by decide +kernel
theorem dL_holds_373 : decode cL_holds 373 = .ok (.iload 4, 2) := by decide +kernel
theorem dL_holds_375 : decode cL_holds 375 = .ok (.aload_n 0, 1) := by decide +kernel
theorem dL_holds_376 : decode cL_holds 376 = .ok (.bipush 10, 2) := by decide +kernel
theorem dL_holds_378 : decode cL_holds 378 = .ok (.invokevirtual 9, 3) := by decide +kernel
theorem dL_holds_381 : decode cL_holds 381 = .ok (.if_icmp .ne 14, 3) := by decide +kernel
theorem dL_holds_384 : decode cL_holds 384 = .ok (.aload_n 0, 1) := by decide +kernel
theorem dL_holds_385 : decode cL_holds 385 = .ok (.invokestatic 75, 3) := by decide +kernel
theorem dL_holds_388 : decode cL_holds 388 = .ok (.ifCond .eq 7, 3) := by decide +kernel
theorem dL_holds_391 : decode cL_holds 391 = .ok (.iconst 1, 1) := by decide +kernel
theorem dL_holds_392 : decode cL_holds 392 = .ok (.goto 4, 3) := by decide +kernel
theorem dL_holds_395 : decode cL_holds 395 = .ok (.iconst 0, 1) := by decide +kernel
theorem dL_holds_396 : decode cL_holds 396 = .ok (.istore 7, 2) := by decide +kernel
theorem dL_holds_398 : decode cL_holds 398 = .ok (.iload 7, 2) := by decide +kernel
theorem dL_holds_400 : decode cL_holds 400 = .ok (.ifCond .eq 32, 3) := by decide +kernel
theorem dL_holds_403 : decode cL_holds 403 = .ok (.aload_n 0, 1) := by decide +kernel
theorem dL_holds_404 : decode cL_holds 404 = .ok (.invokevirtual 79, 3) := by decide +kernel
theorem dL_holds_407 : decode cL_holds 407 = .ok (.iload_n 1, 1) := by decide +kernel
theorem dL_holds_408 : decode cL_holds 408 = .ok (.iload_n 3, 1) := by decide +kernel
theorem dL_holds_409 : decode cL_holds 409 = .ok (.if_icmp .ne 7, 3) := by decide +kernel
theorem dL_holds_412 : decode cL_holds 412 = .ok (.dconst 0, 1) := by decide +kernel
theorem dL_holds_413 : decode cL_holds 413 = .ok (.goto 11, 3) := by decide +kernel
theorem dL_holds_416 : decode cL_holds 416 = .ok (.iload 6, 2) := by decide +kernel
theorem dL_holds_418 : decode cL_holds 418 = .ok (.i2d, 1) := by decide +kernel
theorem dL_holds_419 : decode cL_holds 419 = .ok (.iload_n 1, 1) := by decide +kernel
theorem dL_holds_420 : decode cL_holds 420 = .ok (.iload_n 3, 1) := by decide +kernel
theorem dL_holds_421 : decode cL_holds 421 = .ok (.isub, 1) := by decide +kernel
theorem dL_holds_422 : decode cL_holds 422 = .ok (.i2d, 1) := by decide +kernel
theorem dL_holds_423 : decode cL_holds 423 = .ok (.ddiv, 1) := by decide +kernel
theorem dL_holds_424 : decode cL_holds 424 = .ok (.dcmp .l, 1) := by decide +kernel
theorem dL_holds_425 : decode cL_holds 425 = .ok (.ifCond .ne 7, 3) := by decide +kernel
theorem dL_holds_428 : decode cL_holds 428 = .ok (.iconst 1, 1) := by decide +kernel
theorem dL_holds_429 : decode cL_holds 429 = .ok (.goto 4, 3) := by decide +kernel
theorem dL_holds_432 : decode cL_holds 432 = .ok (.iconst 0, 1) := by decide +kernel
theorem dL_holds_433 : decode cL_holds 433 = .ok (.ireturn, 1) := by decide +kernel
theorem dL_tries_0 : decode cL_tries 0 = .ok (.aload_n 0, 1) := by decide +kernel
theorem dL_tries_1 : decode cL_tries 1 = .ok (.iconst 3, 1) := by decide +kernel
theorem dL_tries_2 : decode cL_tries 2 = .ok (.invokevirtual 9, 3) := by decide +kernel
theorem dL_tries_5 : decode cL_tries 5 = .ok (.istore_n 2, 1) := by decide +kernel
theorem dL_tries_6 : decode cL_tries 6 = .ok (.aload_n 0, 1) := by decide +kernel
theorem dL_tries_7 : decode cL_tries 7 = .ok (.bipush 6, 2) := by decide +kernel
theorem dL_tries_9 : decode cL_tries 9 = .ok (.invokevirtual 9, 3) := by decide +kernel
theorem dL_tries_12 : decode cL_tries 12 = .ok (.istore_n 3, 1) := by decide +kernel
theorem dL_tries_13 : decode cL_tries 13 = .ok (.aload_n 0, 1) := by decide +kernel
theorem dL_tries_14 : decode cL_tries 14 = .ok (.iconst 2, 1) := by decide +kernel
theorem dL_tries_15 : decode cL_tries 15 = .ok (.iconst 0, 1) := by decide +kernel
theorem dL_tries_16 : decode cL_tries 16 = .ok (.invokevirtual 83, 3) := by decide +kernel
theorem dL_tries_19 : decode cL_tries 19 = .ok (.istore 4, 2) := by decide +kernel
theorem dL_tries_21 : decode cL_tries 21 = .ok (.aload_n 0, 1) := by decide +kernel
theorem dL_tries_22 : decode cL_tries 22 = .ok (.iconst 2, 1) := by decide +kernel
theorem dL_tries_23 : decode cL_tries 23 = .ok (.iconst 1, 1) := by decide +kernel
theorem dL_tries_24 : decode cL_tries 24 = .ok (.invokevirtual 83, 3) := by decide +kernel
theorem dL_tries_27 : decode cL_tries 27 = .ok (.istore 5, 2) := by decide +kernel
theorem dL_tries_29 : decode cL_tries 29 = .ok (.aload_n 0, 1) := by decide +kernel
theorem dL_tries_30 : decode cL_tries 30 = .ok (.iconst 2, 1) := by decide +kernel
theorem dL_tries_31 : decode cL_tries 31 = .ok (.iconst 2, 1) := by decide +kernel
theorem dL_tries_32 : decode cL_tries 32 = .ok (.invokevirtual 83, 3) := by decide +kernel
theorem dL_tries_35 : decode cL_tries 35 = .ok (.istore 6, 2) := by decide +kernel
theorem dL_tries_37 : decode cL_tries 37 = .ok (.aload_n 0, 1) := by decide +kernel
theorem dL_tries_38 : decode cL_tries 38 = .ok (.invokevirtual 52, 3) := by decide +kernel
theorem dL_tries_41 : decode cL_tries 41 = .ok (.ifCond .lt 103, 3) := by decide +kernel
theorem dL_tries_44 : decode cL_tries 44 = .ok (.aload_n 0, 1) := by decide +kernel
theorem dL_tries_45 : decode cL_tries 45 = .ok (.invokevirtual 56, 3) := by decide +kernel
theorem dL_tries_48 : decode cL_tries 48 = .ok (.ifCond .lt 96, 3) := by decide +kernel
theorem dL_tries_51 : decode cL_tries 51 = .ok (.aload_n 0, 1) := by decide +kernel
theorem dL_tries_52 : decode cL_tries 52 = .ok (.invokevirtual 52, 3) := by decide +kernel
theorem dL_tries_55 : decode cL_tries 55 = .ok (.ifCond .lt 89, 3) := by decide +kernel
theorem dL_tries_58 : decode cL_tries 58 = .ok (.aload_n 0, 1) := by decide +kernel
theorem dL_tries_59 : decode cL_tries 59 = .ok (.invokevirtual 56, 3) := by decide +kernel
theorem dL_tries_62 : decode cL_tries 62 = .ok (.ifCond .lt 82, 3) := by decide +kernel
theorem dL_tries_65 : decode cL_tries 65 = .ok (.aload_n 0, 1) := by decide +kernel
theorem dL_tries_66 : decode cL_tries 66 = .ok (.iconst 3, 1) := by decide +kernel
theorem dL_tries_67 : decode cL_tries 67 = .ok (.invokevirtual 9, 3) := by decide +kernel
theorem dL_tries_70 : decode cL_tries 70 = .ok (.iload_n 2, 1) := by decide +kernel
theorem dL_tries_71 : decode cL_tries 71 = .ok (.iload 4, 2) := by decide +kernel
theorem dL_tries_73 : decode cL_tries 73 = .ok (.iadd, 1) := by decide +kernel
theorem dL_tries_74 : decode cL_tries 74 = .ok (.if_icmp .ne 70, 3) := by decide +kernel
theorem dL_tries_77 : decode cL_tries 77 = .ok (.aload_n 0, 1) := by decide +kernel
theorem dL_tries_78 : decode cL_tries 78 = .ok (.bipush 6, 2) := by decide +kernel
theorem dL_tries_80 : decode cL_tries 80 = .ok (.invokevirtual 9, 3) := by decide +kernel
theorem dL_tries_83 : decode cL_tries 83 = .ok (.iload_n 3, 1) := by decide +kernel
theorem dL_tries_84 : decode cL_tries 84 = .ok (.iload 5, 2) := by decide +kernel
theorem dL_tries_86 : decode cL_tries 86 = .ok (.iadd, 1) := by decide +kernel
theorem dL_tries_87 : decode cL_tries 87 = .ok (.if_icmp .ne 57, 3) := by decide +kernel
theorem dL_tries_90 : decode cL_tries 90 = .ok (.aload_n 0, 1) := by decide +kernel
theorem dL_tries_91 : decode cL_tries 91 = .ok (.iconst 2, 1) := by decide +kernel
theorem dL_tries_92 : decode cL_tries 92 = .ok (.invokevirtual 9, 3) := by decide +kernel
theorem dL_tries_95 : decode cL_tries 95 = .ok (.iload 6, 2) := by decide +kernel
theorem dL_tries_97 : decode cL_tries 97 = .ok (.if_icmp .ne 47, 3) := by decide +kernel
theorem dL_tries_100 : decode cL_tries 100 = .ok (.aload_n 0, 1) := by decide +kernel
theorem dL_tries_101 : decode cL_tries 101 = .ok (.invokevirtual 86, 3) := by decide +kernel
theorem dL_tries_104 : decode cL_tries 104 = .ok (.iconst 3, 1) := by decide +kernel
theorem dL_tries_105 : decode cL_tries 105 = .ok (.if_icmp .ne 39, 3) := by decide +kernel
theorem dL_tries_108 : decode cL_tries 108 = .ok (.aload_n 0, 1) := by decide +kernel
theorem dL_tries_109 : decode cL_tries 109 = .ok (.invokevirtual 86, 3) := by decide +kernel
theorem dL_tries_112 : decode cL_tries 112 = .ok (.iconst 2, 1) := by decide +kernel
theorem dL_tries_113 : decode cL_tries 113 = .ok (.if_icmp .ne 31, 3) := by decide +kernel
theorem dL_tries_116 : decode cL_tries 116 = .ok (.aload_n 0, 1) := by decide +kernel
theorem dL_tries_117 : decode cL_tries 117 = .ok (.invokevirtual 86, 3) := by decide +kernel
theorem dL_tries_120 : decode cL_tries 120 = .ok (.iconst 1, 1) := by decide +kernel
theorem dL_tries_121 : decode cL_tries 121 = .ok (.if_icmp .ne 23, 3) := by decide +kernel
theorem dL_tries_124 : decode cL_tries 124 = .ok (.aload_n 0, 1) := by decide +kernel
theorem dL_tries_125 : decode cL_tries 125 = .ok (.invokevirtual 86, 3) := by decide +kernel
theorem dL_tries_128 : decode cL_tries 128 = .ok (.ifCond .ne 16, 3) := by decide +kernel
theorem dL_tries_131 : decode cL_tries 131 = .ok (.aload_n 0, 1) := by decide +kernel
theorem dL_tries_132 : decode cL_tries 132 = .ok (.iconst 3, 1) := by decide +kernel
theorem dL_tries_133 : decode cL_tries 133 = .ok (.invokevirtual 9, 3) := by decide +kernel
theorem dL_tries_136 : decode cL_tries 136 = .ok (.iload_n 2, 1) := by decide +kernel
theorem dL_tries_137 : decode cL_tries 137 = .ok (.if_icmp .ne 7, 3) := by decide +kernel
theorem dL_tries_140 : decode cL_tries 140 = .ok (.iconst 1, 1) := by decide +kernel
theorem dL_tries_141 : decode cL_tries 141 = .ok (.goto 4, 3) := by decide +kernel
theorem dL_tries_144 : decode cL_tries 144 = .ok (.iconst 0, 1) := by decide +kernel
theorem dL_tries_145 : decode cL_tries 145 = .ok (.istore 7, 2) := by decide +kernel
theorem dL_tries_147 : decode cL_tries 147 = .ok (.aload_n 0, 1) := by decide +kernel
theorem dL_tries_148 : decode cL_tries 148 = .ok (.iconst 1, 1) := by decide +kernel
theorem dL_tries_149 : decode cL_tries 149 = .ok (.invokevirtual 9, 3) := by decide +kernel
theorem dL_tries_152 : decode cL_tries 152 = .ok (.istore 8, 2) := by decide +kernel
theorem dL_tries_154 : decode cL_tries 154 = .ok (.iload_n 1, 1) := by decide +kernel
theorem dL_tries_155 : decode cL_tries 155 = .ok (.iload 8, 2) := by decide +kernel
theorem dL_tries_157 : decode cL_tries 157 = .ok (.iconst 1, 1) := by decide +kernel
theorem dL_tries_158 : decode cL_tries 158 = .ok (.iadd, 1) := by decide +kernel
theorem dL_tries_159 : decode cL_tries 159 = .ok (.invokestatic 15, 3) := by decide +kernel
theorem dL_tries_162 : decode cL_tries 162 = .ok (.istore 9, 2) := by decide +kernel
theorem dL_tries_164 : decode cL_tries 164 = .ok (.aload_n 0, 1) := by decide +kernel
theorem dL_tries_165 : decode cL_tries 165 = .ok (.iload 9, 2) := by decide +kernel
theorem dL_tries_167 : decode cL_tries 167 = .ok (.invokevirtual 89, 3) := by decide +kernel
theorem dL_tries_170 : decode cL_tries 170 = .ok (.istore 10, 2) := by decide +kernel
theorem dL_tries_172 : decode cL_tries 172 = .ok (.iload 9, 2) := by decide +kernel
theorem dL_tries_174 : decode cL_tries 174 = .ok (.iload 8, 2) := by decide +kernel
theorem dL_tries_176 : decode cL_tries 176 = .ok (.if_icmp .eq 10, 3) := by decide +kernel
theorem dL_tries_179 : decode cL_tries 179 = .ok (.iload 10, 2) := by decide +kernel
theorem dL_tries_181 : decode cL_tries 181 = .ok (.bipush (-4), 2) := by decide +kernel
theorem dL_tries_183 : decode cL_tries 183 = .ok (.if_icmp .ne 42, 3) := by decide +kernel
theorem dL_tries_186 : decode cL_tries 186 = .ok (.iload 7, 2) := by decide +kernel
theorem dL_tries_188 : decode cL_tries 188 = .ok (.ifCond .eq 35, 3) := by decide +kernel
theorem dL_tries_191 : decode cL_tries 191 = .ok (.iload 9, 2) := by decide +kernel
theorem dL_tries_193 : decode cL_tries 193 = .ok (.iload 8, 2) := by decide +kernel
theorem dL_tries_195 : decode cL_tries 195 = .ok (.if_icmp .ne 12, 3) := by decide +kernel
theorem dL_tries_198 : decode cL_tries 198 = .ok (.iload 10, 2) := by decide +kernel
theorem dL_tries_200 : decode cL_tries 200 = .ok (.iconst (-1), 1) := by decide +kernel
theorem dL_tries_201 : decode cL_tries 201 = .ok (.if_icmp .ne 22, 3) := by decide +kernel
theorem dL_tries_204 : decode cL_tries 204 = .ok (.goto 15, 3) := by decide +kernel
theorem dL_tries_207 : decode cL_tries 207 = .ok (.aload_n 0, 1) := by decide +kernel
theorem dL_tries_208 : decode cL_tries 208 = .ok (.iload 9, 2) := by decide +kernel
theorem dL_tries_210 : decode cL_tries 210 = .ok (.iconst 1, 1) := by decide +kernel
theorem dL_tries_211 : decode cL_tries 211 = .ok (.invokevirtual 24, 3) := by decide +kernel
theorem dL_tries_214 : decode cL_tries 214 = .ok (.bipush 63, 2) := by decide +kernel
theorem dL_tries_216 : decode cL_tries 216 = .ok (.if_icmp .ne 7, 3) := by decide +kernel
theorem dL_tries_219 : decode cL_tries 219 = .ok (.iconst 1, 1) := by decide +kernel
theorem dL_tries_220 : decode cL_tries 220 = .ok (.goto 4, 3) := by decide +kernel
theorem dL_tries_223 : decode cL_tries 223 = .ok (.iconst 0, 1) := by decide +kernel
theorem dL_tries_224 : decode cL_tries 224 = .ok (.ireturn, 1) := by decide +kernel
theorem dL_tries_225 : decode cL_tries 225 = .ok (.aload_n 0, 1) := by decide +kernel
theorem dL_tries_226 : decode cL_tries 226 = .ok (.iload 9, 2) := by decide +kernel
theorem dL_tries_228 : decode cL_tries 228 = .ok (.iconst 1, 1) := by decide +kernel
theorem dL_tries_229 : decode cL_tries 229 = .ok (.invokevirtual 24, 3) := by decide +kernel
theorem dL_tries_232 : decode cL_tries 232 = .ok (.istore 11, 2) := by decide +kernel
theorem dL_tries_234 : decode cL_tries 234 = .ok (.iconst (-1), 1) := by decide +kernel
theorem dL_tries_235 : decode cL_tries 235 = .ok (.istore 12, 2) := by decide +kernel
theorem dL_tries_237 : decode cL_tries 237 = .ok (.bipush (-4), 2) := by decide +kernel
theorem dL_tries_239 : decode cL_tries 239 = .ok (.istore 13, 2) := by decide +kernel
theorem dL_tries_241 : decode cL_tries 241 = .ok (.iconst 0, 1) := by decide +kernel
theorem dL_tries_242 : decode cL_tries 242 = .ok (.istore 14, 2) := by decide +kernel
theorem dL_tries_244 : decode cL_tries 244 = .ok (.iload 14, 2) := by decide +kernel
theorem dL_tries_246 : decode cL_tries 246 = .ok (.bipush 6, 2) := by decide +kernel
theorem dL_tries_248 : decode cL_tries 248 = .ok (.if_icmp .ge 109, 3) := by decide +kernel
theorem dL_tries_251 : decode cL_tries 251 = .ok (.iload 7, 2) := by decide +kernel
theorem dL_tries_253 : decode cL_tries 253 = .ok (.ifCond .eq 104, 3) := by decide +kernel
theorem dL_tries_256 : decode cL_tries 256 = .ok (.iload 11, 2) := by decide +kernel
theorem dL_tries_258 : decode cL_tries 258 = .ok (.iload 14, 2) := by decide +kernel
theorem dL_tries_260 : decode cL_tries 260 = .ok (.ishr, 1) := by decide +kernel
theorem dL_tries_261 : decode cL_tries 261 = .ok (.iconst 1, 1) := by decide +kernel
theorem dL_tries_262 : decode cL_tries 262 = .ok (.iand, 1) := by decide +kernel
theorem dL_tries_263 : decode cL_tries 263 = .ok (.ifCond .ne 88, 3) := by decide +kernel
theorem dL_tries_266 : decode cL_tries 266 = .ok (.aload_n 0, 1) := by decide +kernel
theorem dL_tries_267 : decode cL_tries 267 = .ok (.iload 9, 2) := by decide +kernel
theorem dL_tries_269 : decode cL_tries 269 = .ok (.iload 11, 2) := by decide +kernel
theorem dL_tries_271 : decode cL_tries 271 = .ok (.iconst 1, 1) := by decide +kernel
theorem dL_tries_272 : decode cL_tries 272 = .ok (.iload 14, 2) := by decide +kernel
theorem dL_tries_274 : decode cL_tries 274 = .ok (.ishl, 1) := by decide +kernel
theorem dL_tries_275 : decode cL_tries 275 = .ok (.ior, 1) := by decide +kernel
theorem dL_tries_276 : decode cL_tries 276 = .ok (.invokevirtual 30, 3) := by decide +kernel
theorem dL_tries_279 : decode cL_tries 279 = .ok (.iload 11, 2) := by decide +kernel
theorem dL_tries_281 : decode cL_tries 281 = .ok (.if_icmp .ne 7, 3) := by decide +kernel
theorem dL_tries_284 : decode cL_tries 284 = .ok (.iconst 1, 1) := by decide +kernel
theorem dL_tries_285 : decode cL_tries 285 = .ok (.goto 4, 3) := by decide +kernel
theorem dL_tries_288 : decode cL_tries 288 = .ok (.iconst 0, 1) := by decide +kernel
theorem dL_tries_289 : decode cL_tries 289 = .ok (.istore 7, 2) := by decide +kernel
theorem dL_tries_291 : decode cL_tries 291 = .ok (.aload_n 0, 1) := by decide +kernel
theorem dL_tries_292 : decode cL_tries 292 = .ok (.iconst 0, 1) := by decide +kernel
theorem dL_tries_293 : decode cL_tries 293 = .ok (.invokevirtual 49, 3) := by decide +kernel
theorem dL_tries_296 : decode cL_tries 296 = .ok (.iload 12, 2) := by decide +kernel
theorem dL_tries_298 : decode cL_tries 298 = .ok (.if_icmp .le 8, 3) := by decide +kernel
theorem dL_tries_301 : decode cL_tries 301 = .ok (.iload 14, 2) := by decide +kernel
theorem dL_tries_303 : decode cL_tries 303 = .ok (.goto 5, 3) := by decide +kernel
theorem dL_tries_306 : decode cL_tries 306 = .ok (.iload 13, 2) := by decide +kernel
theorem dL_tries_308 : decode cL_tries 308 = .ok (.istore 13, 2) := by decide +kernel
theorem dL_tries_310 : decode cL_tries 310 = .ok (.aload_n 0, 1) := by decide +kernel
theorem dL_tries_311 : decode cL_tries 311 = .ok (.iconst 0, 1) := by decide +kernel
theorem dL_tries_312 : decode cL_tries 312 = .ok (.invokevirtual 49, 3) := by decide +kernel
theorem dL_tries_315 : decode cL_tries 315 = .ok (.iload 12, 2) := by decide +kernel
theorem dL_tries_317 : decode cL_tries 317 = .ok (.if_icmp .le 11, 3) := by decide +kernel
theorem dL_tries_320 : decode cL_tries 320 = .ok (.aload_n 0, 1) := by decide +kernel
theorem dL_tries_321 : decode cL_tries 321 = .ok (.iconst 0, 1) := by decide +kernel
theorem dL_tries_322 : decode cL_tries 322 = .ok (.invokevirtual 49, 3) := by decide +kernel
theorem dL_tries_325 : decode cL_tries 325 = .ok (.goto 5, 3) := by decide +kernel
theorem dL_tries_328 : decode cL_tries 328 = .ok (.iload 12, 2) := by decide +kernel
theorem dL_tries_330 : decode cL_tries 330 = .ok (.istore 12, 2) := by decide +kernel
theorem dL_tries_332 : decode cL_tries 332 = .ok (.iload 7, 2) := by decide +kernel
theorem dL_tries_334 : decode cL_tries 334 = .ok (.ifCond .eq 14, 3) := by decide +kernel
theorem dL_tries_337 : decode cL_tries 337 = .ok (.aload_n 0, 1) := by decide +kernel
theorem dL_tries_338 : decode cL_tries 338 = .ok (.invokevirtual 86, 3) := by decide +kernel
theorem dL_tries_341 : decode cL_tries 341 = .ok (.ifCond .ne 7, 3) := by decide +kernel
theorem dL_tries_344 : decode cL_tries 344 = .ok (.iconst 1, 1) := by decide +kernel
theorem dL_tries_345 : decode cL_tries 345 = .ok (.goto 4, 3) := by decide +kernel
theorem dL_tries_348 : decode cL_tries 348 = .ok (.iconst 0, 1) := by decide +kernel
theorem dL_tries_349 : decode cL_tries 349 = .ok (.istore 7, 2) := by decide +kernel
theorem dL_tries_351 : decode cL_tries 351 = .ok (.iinc 14 1, 3) := by decide +kernel
theorem dL_tries_354 : decode cL_tries 354 = .ok (.goto (-110), 3) := by decide +kernel
theorem dL_tries_357 : decode cL_tries 357 = .ok (.iload 7, 2) := by decide +kernel
theorem dL_tries_359 : decode cL_tries 359 = .ok (.ifCond .eq 14, 3) := by decide +kernel
theorem dL_tries_362 : decode cL_tries 362 = .ok (.iload 13, 2) := by decide +kernel
theorem dL_tries_364 : decode cL_tries 364 = .ok (.iload 10, 2) := by decide +kernel
theorem dL_tries_366 : decode cL_tries 366 = .ok (.if_icmp .ne 7, 3) := by decide +kernel
theorem dL_tries_369 : decode cL_tries 369 = .ok (.iconst 1, 1) := by decide +kernel
theorem dL_tries_370 : decode cL_tries 370 = .ok (.goto 4, 3) := by decide +kernel
theorem dL_tries_373 : decode cL_tries 373 = .ok (.iconst 0, 1) := by decide +kernel
theorem dL_tries_374 : decode cL_tries 374 = .ok (.ireturn, 1) := by decide +kernel
theorem dL_law_0 : decode cL_law 0 = .ok (.new 10, 3) := by decide +kernel
theorem dL_law_3 : decode cL_law 3 = .ok (.dup, 1) := by decide +kernel
theorem dL_law_4 : decode cL_law 4 = .ok (.invokespecial 92, 3) := by decide +kernel
theorem dL_law_7 : decode cL_law 7 = .ok (.astore_n 1, 1) := by decide +kernel
theorem dL_law_8 : decode cL_law 8 = .ok (.aload_n 1, 1) := by decide +kernel
theorem dL_law_9 : decode cL_law 9 = .ok (.invokestatic 93, 3) := by decide +kernel
theorem dL_law_12 : decode cL_law 12 = .ok (.ifCond .eq 25, 3) := by decide +kernel
theorem dL_law_15 : decode cL_law 15 = .ok (.aload_n 1, 1) := by decide +kernel
theorem dL_law_16 : decode cL_law 16 = .ok (.invokevirtual 86, 3) := by decide +kernel
theorem dL_law_19 : decode cL_law 19 = .ok (.bipush (-2), 2) := by decide +kernel
theorem dL_law_21 : decode cL_law 21 = .ok (.if_icmp .ne 16, 3) := by decide +kernel
theorem dL_law_24 : decode cL_law 24 = .ok (.aload_n 1, 1) := by decide +kernel
theorem dL_law_25 : decode cL_law 25 = .ok (.invokevirtual 96, 3) := by decide +kernel
theorem dL_law_28 : decode cL_law 28 = .ok (.bipush (-2), 2) := by decide +kernel
theorem dL_law_30 : decode cL_law 30 = .ok (.if_icmp .ne 7, 3) := by decide +kernel
theorem dL_law_33 : decode cL_law 33 = .ok (.iconst 1, 1) := by decide +kernel
theorem dL_law_34 : decode cL_law 34 = .ok (.goto 4, 3) := by decide +kernel
theorem dL_law_37 : decode cL_law 37 = .ok (.iconst 0, 1) := by decide +kernel
theorem dL_law_38 : decode cL_law 38 = .ok (.istore_n 2, 1) := by decide +kernel
theorem dL_law_39 : decode cL_law 39 = .ok (.aload_n 0, 1) := by decide +kernel
theorem dL_law_40 : decode cL_law 40 = .ok (.arraylength, 1) := by decide +kernel
theorem dL_law_41 : decode cL_law 41 = .ok (.iconst 3, 1) := by decide +kernel
theorem dL_law_42 : decode cL_law 42 = .ok (.idiv, 1) := by decide +kernel
theorem dL_law_43 : decode cL_law 43 = .ok (.bipush 36, 2) := by decide +kernel
theorem dL_law_45 : decode cL_law 45 = .ok (.if_icmp .le 8, 3) := by decide +kernel
theorem dL_law_48 : decode cL_law 48 = .ok (.bipush 36, 2) := by decide +kernel
theorem dL_law_50 : decode cL_law 50 = .ok (.goto 7, 3) := by decide +kernel
theorem dL_law_53 : decode cL_law 53 = .ok (.aload_n 0, 1) := by decide +kernel
theorem dL_law_54 : decode cL_law 54 = .ok (.arraylength, 1) := by decide +kernel
theorem dL_law_55 : decode cL_law 55 = .ok (.iconst 3, 1) := by decide +kernel
theorem dL_law_56 : decode cL_law 56 = .ok (.idiv, 1) := by decide +kernel
theorem dL_law_57 : decode cL_law 57 = .ok (.istore_n 3, 1) := by decide +kernel
theorem dL_law_58 : decode cL_law 58 = .ok (.iconst 0, 1) := by decide +kernel
theorem dL_law_59 : decode cL_law 59 = .ok (.istore 4, 2) := by decide +kernel
theorem dL_law_61 : decode cL_law 61 = .ok (.iload 4, 2) := by decide +kernel
theorem dL_law_63 : decode cL_law 63 = .ok (.iload_n 3, 1) := by decide +kernel
theorem dL_law_64 : decode cL_law 64 = .ok (.if_icmp .ge 98, 3) := by decide +kernel
theorem dL_law_67 : decode cL_law 67 = .ok (.iload_n 2, 1) := by decide +kernel
theorem dL_law_68 : decode cL_law 68 = .ok (.ifCond .eq 94, 3) := by decide +kernel
theorem dL_law_71 : decode cL_law 71 = .ok (.aload_n 1, 1) := by decide +kernel
theorem dL_law_72 : decode cL_law 72 = .ok (.aload_n 0, 1) := by decide +kernel
theorem dL_law_73 : decode cL_law 73 = .ok (.iconst 3, 1) := by decide +kernel
theorem dL_law_74 : decode cL_law 74 = .ok (.iload 4, 2) := by decide +kernel
theorem dL_law_76 : decode cL_law 76 = .ok (.imul, 1) := by decide +kernel
theorem dL_law_77 : decode cL_law 77 = .ok (.invokestatic 99, 3) := by decide +kernel
theorem dL_law_80 : decode cL_law 80 = .ok (.bipush 16, 2) := by decide +kernel
theorem dL_law_82 : decode cL_law 82 = .ok (.invokestatic 15, 3) := by decide +kernel
theorem dL_law_85 : decode cL_law 85 = .ok (.aload_n 0, 1) := by decide +kernel
theorem dL_law_86 : decode cL_law 86 = .ok (.iconst 3, 1) := by decide +kernel
theorem dL_law_87 : decode cL_law 87 = .ok (.iload 4, 2) := by decide +kernel
theorem dL_law_89 : decode cL_law 89 = .ok (.imul, 1) := by decide +kernel
theorem dL_law_90 : decode cL_law 90 = .ok (.iconst 1, 1) := by decide +kernel
theorem dL_law_91 : decode cL_law 91 = .ok (.iadd, 1) := by decide +kernel
theorem dL_law_92 : decode cL_law 92 = .ok (.invokestatic 99, 3) := by decide +kernel
theorem dL_law_95 : decode cL_law 95 = .ok (.aload_n 0, 1) := by decide +kernel
theorem dL_law_96 : decode cL_law 96 = .ok (.iconst 3, 1) := by decide +kernel
theorem dL_law_97 : decode cL_law 97 = .ok (.iload 4, 2) := by decide +kernel
theorem dL_law_99 : decode cL_law 99 = .ok (.imul, 1) := by decide +kernel
theorem dL_law_100 : decode cL_law 100 = .ok (.iconst 2, 1) := by decide +kernel
theorem dL_law_101 : decode cL_law 101 = .ok (.iadd, 1) := by decide +kernel
theorem dL_law_102 : decode cL_law 102 = .ok (.invokestatic 99, 3) := by decide +kernel
theorem dL_law_105 : decode cL_law 105 = .ok (.invokestatic 103, 3) := by decide +kernel
theorem dL_law_108 : decode cL_law 108 = .ok (.ifCond .eq 46, 3) := by decide +kernel
theorem dL_law_111 : decode cL_law 111 = .ok (.aload_n 1, 1) := by decide +kernel
theorem dL_law_112 : decode cL_law 112 = .ok (.invokestatic 93, 3) := by decide +kernel
theorem dL_law_115 : decode cL_law 115 = .ok (.ifCond .eq 39, 3) := by decide +kernel
theorem dL_law_118 : decode cL_law 118 = .ok (.iload 4, 2) := by decide +kernel
theorem dL_law_120 : decode cL_law 120 = .ok (.iconst 5, 1) := by decide +kernel
theorem dL_law_121 : decode cL_law 121 = .ok (.irem, 1) := by decide +kernel
theorem dL_law_122 : decode cL_law 122 = .ok (.iconst 4, 1) := by decide +kernel
theorem dL_law_123 : decode cL_law 123 = .ok (.if_icmp .ne 27, 3) := by decide +kernel
theorem dL_law_126 : decode cL_law 126 = .ok (.aload_n 1, 1) := by decide +kernel
theorem dL_law_127 : decode cL_law 127 = .ok (.aload_n 0, 1) := by decide +kernel
theorem dL_law_128 : decode cL_law 128 = .ok (.iconst 3, 1) := by decide +kernel
theorem dL_law_129 : decode cL_law 129 = .ok (.iload 4, 2) := by decide +kernel
theorem dL_law_131 : decode cL_law 131 = .ok (.imul, 1) := by decide +kernel
theorem dL_law_132 : decode cL_law 132 = .ok (.iconst 2, 1) := by decide +kernel
theorem dL_law_133 : decode cL_law 133 = .ok (.iadd, 1) := by decide +kernel
theorem dL_law_134 : decode cL_law 134 = .ok (.invokestatic 99, 3) := by decide +kernel
theorem dL_law_137 : decode cL_law 137 = .ok (.invokestatic 107, 3) := by decide +kernel
theorem dL_law_140 : decode cL_law 140 = .ok (.ifCond .eq 14, 3) := by decide +kernel
theorem dL_law_143 : decode cL_law 143 = .ok (.aload_n 1, 1) := by decide +kernel
theorem dL_law_144 : decode cL_law 144 = .ok (.invokestatic 93, 3) := by decide +kernel
theorem dL_law_147 : decode cL_law 147 = .ok (.ifCond .eq 7, 3) := by decide +kernel
theorem dL_law_150 : decode cL_law 150 = .ok (.iconst 1, 1) := by decide +kernel
theorem dL_law_151 : decode cL_law 151 = .ok (.goto 4, 3) := by decide +kernel
theorem dL_law_154 : decode cL_law 154 = .ok (.iconst 0, 1) := by decide +kernel
theorem dL_law_155 : decode cL_law 155 = .ok (.istore_n 2, 1) := by decide +kernel
theorem dL_law_156 : decode cL_law 156 = .ok (.iinc 4 1, 3) := by decide +kernel
theorem dL_law_159 : decode cL_law 159 = .ok (.goto (-98), 3) := by decide +kernel
theorem dL_law_162 : decode cL_law 162 = .ok (.iload_n 2, 1) := by decide +kernel
theorem dL_law_163 : decode cL_law 163 = .ok (.ireturn, 1) := by decide +kernel
