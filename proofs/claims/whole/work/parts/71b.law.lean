theorem d_Lw_law_465 : decode b_Lw_law 465 = .ok (.istore 5, 2) := by decide +kernel
theorem d_Lw_law_467 : decode b_Lw_law 467 = .ok (.aload_n 2, 1) := by decide +kernel
theorem d_Lw_law_468 : decode b_Lw_law 468 = .ok (.invokevirtual 102, 3) := by decide +kernel
theorem d_Lw_law_471 : decode b_Lw_law 471 = .ok (.aload_n 2, 1) := by decide +kernel
theorem d_Lw_law_472 : decode b_Lw_law 472 = .ok (.invokevirtual 74, 3) := by decide +kernel
theorem d_Lw_law_475 : decode b_Lw_law 475 = .ok (.iload 5, 2) := by decide +kernel
theorem d_Lw_law_477 : decode b_Lw_law 477 = .ok (.if_icmp .eq 5, 3) := by decide +kernel
theorem d_Lw_law_480 : decode b_Lw_law 480 = .ok (.iconst 0, 1) := by decide +kernel
theorem d_Lw_law_481 : decode b_Lw_law 481 = .ok (.ireturn, 1) := by decide +kernel
theorem d_Lw_law_482 : decode b_Lw_law 482 = .ok (.goto 396, 3) := by decide +kernel
theorem d_Lw_law_485 : decode b_Lw_law 485 = .ok (.aload_n 1, 1) := by decide +kernel
theorem d_Lw_law_486 : decode b_Lw_law 486 = .ok (.invokevirtual 103, 3) := by decide +kernel
theorem d_Lw_law_489 : decode b_Lw_law 489 = .ok (.aload_n 2, 1) := by decide +kernel
theorem d_Lw_law_490 : decode b_Lw_law 490 = .ok (.invokevirtual 106, 3) := by decide +kernel
theorem d_Lw_law_493 : decode b_Lw_law 493 = .ok (.if_icmp .eq 385, 3) := by decide +kernel
theorem d_Lw_law_496 : decode b_Lw_law 496 = .ok (.iconst 0, 1) := by decide +kernel
theorem d_Lw_law_497 : decode b_Lw_law 497 = .ok (.ireturn, 1) := by decide +kernel
theorem d_Lw_law_498 : decode b_Lw_law 498 = .ok (.aload_n 1, 1) := by decide +kernel
theorem d_Lw_law_499 : decode b_Lw_law 499 = .ok (.aload_n 0, 1) := by decide +kernel
theorem d_Lw_law_500 : decode b_Lw_law 500 = .ok (.iload 4, 2) := by decide +kernel
theorem d_Lw_law_502 : decode b_Lw_law 502 = .ok (.iconst 1, 1) := by decide +kernel
theorem d_Lw_law_503 : decode b_Lw_law 503 = .ok (.iadd, 1) := by decide +kernel
theorem d_Lw_law_504 : decode b_Lw_law 504 = .ok (.iaload, 1) := by decide +kernel
theorem d_Lw_law_505 : decode b_Lw_law 505 = .ok (.aload_n 0, 1) := by decide +kernel
theorem d_Lw_law_506 : decode b_Lw_law 506 = .ok (.iload 4, 2) := by decide +kernel
theorem d_Lw_law_508 : decode b_Lw_law 508 = .ok (.iconst 2, 1) := by decide +kernel
theorem d_Lw_law_509 : decode b_Lw_law 509 = .ok (.iadd, 1) := by decide +kernel
theorem d_Lw_law_510 : decode b_Lw_law 510 = .ok (.iaload, 1) := by decide +kernel
theorem d_Lw_law_511 : decode b_Lw_law 511 = .ok (.aload_n 3, 1) := by decide +kernel
theorem d_Lw_law_512 : decode b_Lw_law 512 = .ok (.invokestatic 107, 3) := by decide +kernel
theorem d_Lw_law_515 : decode b_Lw_law 515 = .ok (.istore 5, 2) := by decide +kernel
theorem d_Lw_law_517 : decode b_Lw_law 517 = .ok (.aload_n 2, 1) := by decide +kernel
theorem d_Lw_law_518 : decode b_Lw_law 518 = .ok (.aload_n 0, 1) := by decide +kernel
theorem d_Lw_law_519 : decode b_Lw_law 519 = .ok (.iload 4, 2) := by decide +kernel
theorem d_Lw_law_521 : decode b_Lw_law 521 = .ok (.iconst 1, 1) := by decide +kernel
theorem d_Lw_law_522 : decode b_Lw_law 522 = .ok (.iadd, 1) := by decide +kernel
theorem d_Lw_law_523 : decode b_Lw_law 523 = .ok (.iaload, 1) := by decide +kernel
theorem d_Lw_law_524 : decode b_Lw_law 524 = .ok (.aload_n 0, 1) := by decide +kernel
theorem d_Lw_law_525 : decode b_Lw_law 525 = .ok (.iload 4, 2) := by decide +kernel
theorem d_Lw_law_527 : decode b_Lw_law 527 = .ok (.iconst 2, 1) := by decide +kernel
theorem d_Lw_law_528 : decode b_Lw_law 528 = .ok (.iadd, 1) := by decide +kernel
theorem d_Lw_law_529 : decode b_Lw_law 529 = .ok (.iaload, 1) := by decide +kernel
theorem d_Lw_law_530 : decode b_Lw_law 530 = .ok (.invokevirtual 110, 3) := by decide +kernel
theorem d_Lw_law_533 : decode b_Lw_law 533 = .ok (.istore 6, 2) := by decide +kernel
theorem d_Lw_law_535 : decode b_Lw_law 535 = .ok (.aload_n 2, 1) := by decide +kernel
theorem d_Lw_law_536 : decode b_Lw_law 536 = .ok (.invokevirtual 74, 3) := by decide +kernel
theorem d_Lw_law_539 : decode b_Lw_law 539 = .ok (.iload 5, 2) := by decide +kernel
theorem d_Lw_law_541 : decode b_Lw_law 541 = .ok (.if_icmp .eq 5, 3) := by decide +kernel
theorem d_Lw_law_544 : decode b_Lw_law 544 = .ok (.iconst 0, 1) := by decide +kernel
theorem d_Lw_law_545 : decode b_Lw_law 545 = .ok (.ireturn, 1) := by decide +kernel
theorem d_Lw_law_546 : decode b_Lw_law 546 = .ok (.iload 5, 2) := by decide +kernel
theorem d_Lw_law_548 : decode b_Lw_law 548 = .ok (.ifCond .ne 15, 3) := by decide +kernel
theorem d_Lw_law_551 : decode b_Lw_law 551 = .ok (.aload_n 3, 1) := by decide +kernel
theorem d_Lw_law_552 : decode b_Lw_law 552 = .ok (.iconst 0, 1) := by decide +kernel
theorem d_Lw_law_553 : decode b_Lw_law 553 = .ok (.laload, 1) := by decide +kernel
theorem d_Lw_law_554 : decode b_Lw_law 554 = .ok (.iload 6, 2) := by decide +kernel
theorem d_Lw_law_556 : decode b_Lw_law 556 = .ok (.i2l, 1) := by decide +kernel
theorem d_Lw_law_557 : decode b_Lw_law 557 = .ok (.lcmp, 1) := by decide +kernel
theorem d_Lw_law_558 : decode b_Lw_law 558 = .ok (.ifCond .eq 5, 3) := by decide +kernel
theorem d_Lw_law_561 : decode b_Lw_law 561 = .ok (.iconst 0, 1) := by decide +kernel
theorem d_Lw_law_562 : decode b_Lw_law 562 = .ok (.ireturn, 1) := by decide +kernel
theorem d_Lw_law_563 : decode b_Lw_law 563 = .ok (.goto 315, 3) := by decide +kernel
theorem d_Lw_law_566 : decode b_Lw_law 566 = .ok (.aload_n 1, 1) := by decide +kernel
theorem d_Lw_law_567 : decode b_Lw_law 567 = .ok (.aload_n 3, 1) := by decide +kernel
theorem d_Lw_law_568 : decode b_Lw_law 568 = .ok (.invokestatic 111, 3) := by decide +kernel
theorem d_Lw_law_571 : decode b_Lw_law 571 = .ok (.istore 5, 2) := by decide +kernel
theorem d_Lw_law_573 : decode b_Lw_law 573 = .ok (.aload_n 2, 1) := by decide +kernel
theorem d_Lw_law_574 : decode b_Lw_law 574 = .ok (.invokevirtual 113, 3) := by decide +kernel
theorem d_Lw_law_577 : decode b_Lw_law 577 = .ok (.istore 6, 2) := by decide +kernel
theorem d_Lw_law_579 : decode b_Lw_law 579 = .ok (.aload_n 2, 1) := by decide +kernel
theorem d_Lw_law_580 : decode b_Lw_law 580 = .ok (.invokevirtual 74, 3) := by decide +kernel
theorem d_Lw_law_583 : decode b_Lw_law 583 = .ok (.iload 5, 2) := by decide +kernel
theorem d_Lw_law_585 : decode b_Lw_law 585 = .ok (.if_icmp .eq 5, 3) := by decide +kernel
theorem d_Lw_law_588 : decode b_Lw_law 588 = .ok (.iconst 0, 1) := by decide +kernel
theorem d_Lw_law_589 : decode b_Lw_law 589 = .ok (.ireturn, 1) := by decide +kernel
theorem d_Lw_law_590 : decode b_Lw_law 590 = .ok (.iload 5, 2) := by decide +kernel
theorem d_Lw_law_592 : decode b_Lw_law 592 = .ok (.ifCond .ne 22, 3) := by decide +kernel
theorem d_Lw_law_595 : decode b_Lw_law 595 = .ok (.aload_n 3, 1) := by decide +kernel
theorem d_Lw_law_596 : decode b_Lw_law 596 = .ok (.iconst 0, 1) := by decide +kernel
theorem d_Lw_law_597 : decode b_Lw_law 597 = .ok (.laload, 1) := by decide +kernel
theorem d_Lw_law_598 : decode b_Lw_law 598 = .ok (.iload 6, 2) := by decide +kernel
theorem d_Lw_law_600 : decode b_Lw_law 600 = .ok (.ifCond .eq 7, 3) := by decide +kernel
theorem d_Lw_law_603 : decode b_Lw_law 603 = .ok (.lconst 1, 1) := by decide +kernel
theorem d_Lw_law_604 : decode b_Lw_law 604 = .ok (.goto 4, 3) := by decide +kernel
theorem d_Lw_law_607 : decode b_Lw_law 607 = .ok (.lconst 0, 1) := by decide +kernel
theorem d_Lw_law_608 : decode b_Lw_law 608 = .ok (.lcmp, 1) := by decide +kernel
theorem d_Lw_law_609 : decode b_Lw_law 609 = .ok (.ifCond .eq 5, 3) := by decide +kernel
theorem d_Lw_law_612 : decode b_Lw_law 612 = .ok (.iconst 0, 1) := by decide +kernel
theorem d_Lw_law_613 : decode b_Lw_law 613 = .ok (.ireturn, 1) := by decide +kernel
theorem d_Lw_law_614 : decode b_Lw_law 614 = .ok (.goto 264, 3) := by decide +kernel
theorem d_Lw_law_617 : decode b_Lw_law 617 = .ok (.aload_n 1, 1) := by decide +kernel
theorem d_Lw_law_618 : decode b_Lw_law 618 = .ok (.invokestatic 114, 3) := by decide +kernel
theorem d_Lw_law_621 : decode b_Lw_law 621 = .ok (.istore 5, 2) := by decide +kernel
theorem d_Lw_law_623 : decode b_Lw_law 623 = .ok (.aload_n 2, 1) := by decide +kernel
theorem d_Lw_law_624 : decode b_Lw_law 624 = .ok (.invokevirtual 116, 3) := by decide +kernel
theorem d_Lw_law_627 : decode b_Lw_law 627 = .ok (.aload_n 2, 1) := by decide +kernel
theorem d_Lw_law_628 : decode b_Lw_law 628 = .ok (.invokevirtual 74, 3) := by decide +kernel
theorem d_Lw_law_631 : decode b_Lw_law 631 = .ok (.iload 5, 2) := by decide +kernel
theorem d_Lw_law_633 : decode b_Lw_law 633 = .ok (.if_icmp .eq 5, 3) := by decide +kernel
theorem d_Lw_law_636 : decode b_Lw_law 636 = .ok (.iconst 0, 1) := by decide +kernel
theorem d_Lw_law_637 : decode b_Lw_law 637 = .ok (.ireturn, 1) := by decide +kernel
theorem d_Lw_law_638 : decode b_Lw_law 638 = .ok (.goto 240, 3) := by decide +kernel
theorem d_Lw_law_641 : decode b_Lw_law 641 = .ok (.aload_n 1, 1) := by decide +kernel
theorem d_Lw_law_642 : decode b_Lw_law 642 = .ok (.aload_n 3, 1) := by decide +kernel
theorem d_Lw_law_643 : decode b_Lw_law 643 = .ok (.invokestatic 117, 3) := by decide +kernel
theorem d_Lw_law_646 : decode b_Lw_law 646 = .ok (.istore 5, 2) := by decide +kernel
theorem d_Lw_law_648 : decode b_Lw_law 648 = .ok (.aload_n 2, 1) := by decide +kernel
theorem d_Lw_law_649 : decode b_Lw_law 649 = .ok (.invokevirtual 119, 3) := by decide +kernel
theorem d_Lw_law_652 : decode b_Lw_law 652 = .ok (.istore 6, 2) := by decide +kernel
theorem d_Lw_law_654 : decode b_Lw_law 654 = .ok (.aload_n 2, 1) := by decide +kernel
theorem d_Lw_law_655 : decode b_Lw_law 655 = .ok (.invokevirtual 74, 3) := by decide +kernel
theorem d_Lw_law_658 : decode b_Lw_law 658 = .ok (.iload 5, 2) := by decide +kernel
theorem d_Lw_law_660 : decode b_Lw_law 660 = .ok (.if_icmp .eq 5, 3) := by decide +kernel
theorem d_Lw_law_663 : decode b_Lw_law 663 = .ok (.iconst 0, 1) := by decide +kernel
theorem d_Lw_law_664 : decode b_Lw_law 664 = .ok (.ireturn, 1) := by decide +kernel
theorem d_Lw_law_665 : decode b_Lw_law 665 = .ok (.iload 5, 2) := by decide +kernel
theorem d_Lw_law_667 : decode b_Lw_law 667 = .ok (.ifCond .ne 15, 3) := by decide +kernel
theorem d_Lw_law_670 : decode b_Lw_law 670 = .ok (.aload_n 3, 1) := by decide +kernel
theorem d_Lw_law_671 : decode b_Lw_law 671 = .ok (.iconst 0, 1) := by decide +kernel
theorem d_Lw_law_672 : decode b_Lw_law 672 = .ok (.laload, 1) := by decide +kernel
theorem d_Lw_law_673 : decode b_Lw_law 673 = .ok (.iload 6, 2) := by decide +kernel
theorem d_Lw_law_675 : decode b_Lw_law 675 = .ok (.i2l, 1) := by decide +kernel
theorem d_Lw_law_676 : decode b_Lw_law 676 = .ok (.lcmp, 1) := by decide +kernel
theorem d_Lw_law_677 : decode b_Lw_law 677 = .ok (.ifCond .eq 5, 3) := by decide +kernel
theorem d_Lw_law_680 : decode b_Lw_law 680 = .ok (.iconst 0, 1) := by decide +kernel
theorem d_Lw_law_681 : decode b_Lw_law 681 = .ok (.ireturn, 1) := by decide +kernel
theorem d_Lw_law_682 : decode b_Lw_law 682 = .ok (.goto 196, 3) := by decide +kernel
theorem d_Lw_law_685 : decode b_Lw_law 685 = .ok (.aload_n 1, 1) := by decide +kernel
theorem d_Lw_law_686 : decode b_Lw_law 686 = .ok (.aload_n 0, 1) := by decide +kernel
theorem d_Lw_law_687 : decode b_Lw_law 687 = .ok (.iload 4, 2) := by decide +kernel
theorem d_Lw_law_689 : decode b_Lw_law 689 = .ok (.iconst 1, 1) := by decide +kernel
theorem d_Lw_law_690 : decode b_Lw_law 690 = .ok (.iadd, 1) := by decide +kernel
theorem d_Lw_law_691 : decode b_Lw_law 691 = .ok (.iaload, 1) := by decide +kernel
theorem d_Lw_law_692 : decode b_Lw_law 692 = .ok (.aload_n 3, 1) := by decide +kernel
theorem d_Lw_law_693 : decode b_Lw_law 693 = .ok (.invokestatic 120, 3) := by decide +kernel
theorem d_Lw_law_696 : decode b_Lw_law 696 = .ok (.istore 5, 2) := by decide +kernel
theorem d_Lw_law_698 : decode b_Lw_law 698 = .ok (.aload_n 2, 1) := by decide +kernel
theorem d_Lw_law_699 : decode b_Lw_law 699 = .ok (.aload_n 0, 1) := by decide +kernel
theorem d_Lw_law_700 : decode b_Lw_law 700 = .ok (.iload 4, 2) := by decide +kernel
theorem d_Lw_law_702 : decode b_Lw_law 702 = .ok (.iconst 1, 1) := by decide +kernel
theorem d_Lw_law_703 : decode b_Lw_law 703 = .ok (.iadd, 1) := by decide +kernel
theorem d_Lw_law_704 : decode b_Lw_law 704 = .ok (.iaload, 1) := by decide +kernel
theorem d_Lw_law_705 : decode b_Lw_law 705 = .ok (.invokevirtual 123, 3) := by decide +kernel
theorem d_Lw_law_708 : decode b_Lw_law 708 = .ok (.istore 6, 2) := by decide +kernel
theorem d_Lw_law_710 : decode b_Lw_law 710 = .ok (.aload_n 2, 1) := by decide +kernel
theorem d_Lw_law_711 : decode b_Lw_law 711 = .ok (.invokevirtual 74, 3) := by decide +kernel
theorem d_Lw_law_714 : decode b_Lw_law 714 = .ok (.iload 5, 2) := by decide +kernel
theorem d_Lw_law_716 : decode b_Lw_law 716 = .ok (.if_icmp .eq 5, 3) := by decide +kernel
theorem d_Lw_law_719 : decode b_Lw_law 719 = .ok (.iconst 0, 1) := by decide +kernel
theorem d_Lw_law_720 : decode b_Lw_law 720 = .ok (.ireturn, 1) := by decide +kernel
theorem d_Lw_law_721 : decode b_Lw_law 721 = .ok (.iload 5, 2) := by decide +kernel
theorem d_Lw_law_723 : decode b_Lw_law 723 = .ok (.ifCond .ne 15, 3) := by decide +kernel
theorem d_Lw_law_726 : decode b_Lw_law 726 = .ok (.aload_n 3, 1) := by decide +kernel
theorem d_Lw_law_727 : decode b_Lw_law 727 = .ok (.iconst 0, 1) := by decide +kernel
theorem d_Lw_law_728 : decode b_Lw_law 728 = .ok (.laload, 1) := by decide +kernel
theorem d_Lw_law_729 : decode b_Lw_law 729 = .ok (.iload 6, 2) := by decide +kernel
theorem d_Lw_law_731 : decode b_Lw_law 731 = .ok (.i2l, 1) := by decide +kernel
theorem d_Lw_law_732 : decode b_Lw_law 732 = .ok (.lcmp, 1) := by decide +kernel
theorem d_Lw_law_733 : decode b_Lw_law 733 = .ok (.ifCond .eq 5, 3) := by decide +kernel
theorem d_Lw_law_736 : decode b_Lw_law 736 = .ok (.iconst 0, 1) := by decide +kernel
theorem d_Lw_law_737 : decode b_Lw_law 737 = .ok (.ireturn, 1) := by decide +kernel
theorem d_Lw_law_738 : decode b_Lw_law 738 = .ok (.goto 140, 3) := by decide +kernel
theorem d_Lw_law_741 : decode b_Lw_law 741 = .ok (.aload_n 1, 1) := by decide +kernel
theorem d_Lw_law_742 : decode b_Lw_law 742 = .ok (.invokevirtual 124, 3) := by decide +kernel
theorem d_Lw_law_745 : decode b_Lw_law 745 = .ok (.aload_n 2, 1) := by decide +kernel
theorem d_Lw_law_746 : decode b_Lw_law 746 = .ok (.invokevirtual 127, 3) := by decide +kernel
theorem d_Lw_law_749 : decode b_Lw_law 749 = .ok (.if_icmp .eq 129, 3) := by decide +kernel
theorem d_Lw_law_752 : decode b_Lw_law 752 = .ok (.iconst 0, 1) := by decide +kernel
theorem d_Lw_law_753 : decode b_Lw_law 753 = .ok (.ireturn, 1) := by decide +kernel
theorem d_Lw_law_754 : decode b_Lw_law 754 = .ok (.aload_n 1, 1) := by decide +kernel
theorem d_Lw_law_755 : decode b_Lw_law 755 = .ok (.aload_n 0, 1) := by decide +kernel
theorem d_Lw_law_756 : decode b_Lw_law 756 = .ok (.iload 4, 2) := by decide +kernel
theorem d_Lw_law_758 : decode b_Lw_law 758 = .ok (.iconst 1, 1) := by decide +kernel
theorem d_Lw_law_759 : decode b_Lw_law 759 = .ok (.iadd, 1) := by decide +kernel
theorem d_Lw_law_760 : decode b_Lw_law 760 = .ok (.iaload, 1) := by decide +kernel
theorem d_Lw_law_761 : decode b_Lw_law 761 = .ok (.aload_n 0, 1) := by decide +kernel
theorem d_Lw_law_762 : decode b_Lw_law 762 = .ok (.iload 4, 2) := by decide +kernel
theorem d_Lw_law_764 : decode b_Lw_law 764 = .ok (.iconst 2, 1) := by decide +kernel
theorem d_Lw_law_765 : decode b_Lw_law 765 = .ok (.iadd, 1) := by decide +kernel
theorem d_Lw_law_766 : decode b_Lw_law 766 = .ok (.iaload, 1) := by decide +kernel
theorem d_Lw_law_767 : decode b_Lw_law 767 = .ok (.aload_n 3, 1) := by decide +kernel
theorem d_Lw_law_768 : decode b_Lw_law 768 = .ok (.invokestatic 128, 3) := by decide +kernel
theorem d_Lw_law_771 : decode b_Lw_law 771 = .ok (.istore 5, 2) := by decide +kernel
theorem d_Lw_law_773 : decode b_Lw_law 773 = .ok (.aload_n 2, 1) := by decide +kernel
theorem d_Lw_law_774 : decode b_Lw_law 774 = .ok (.aload_n 0, 1) := by decide +kernel
theorem d_Lw_law_775 : decode b_Lw_law 775 = .ok (.iload 4, 2) := by decide +kernel
theorem d_Lw_law_777 : decode b_Lw_law 777 = .ok (.iconst 1, 1) := by decide +kernel
theorem d_Lw_law_778 : decode b_Lw_law 778 = .ok (.iadd, 1) := by decide +kernel
theorem d_Lw_law_779 : decode b_Lw_law 779 = .ok (.iaload, 1) := by decide +kernel
theorem d_Lw_law_780 : decode b_Lw_law 780 = .ok (.aload_n 0, 1) := by decide +kernel
theorem d_Lw_law_781 : decode b_Lw_law 781 = .ok (.iload 4, 2) := by decide +kernel
theorem d_Lw_law_783 : decode b_Lw_law 783 = .ok (.iconst 2, 1) := by decide +kernel
theorem d_Lw_law_784 : decode b_Lw_law 784 = .ok (.iadd, 1) := by decide +kernel
theorem d_Lw_law_785 : decode b_Lw_law 785 = .ok (.iaload, 1) := by decide +kernel
theorem d_Lw_law_786 : decode b_Lw_law 786 = .ok (.invokevirtual 130, 3) := by decide +kernel
theorem d_Lw_law_789 : decode b_Lw_law 789 = .ok (.istore 6, 2) := by decide +kernel
theorem d_Lw_law_791 : decode b_Lw_law 791 = .ok (.aload_n 2, 1) := by decide +kernel
theorem d_Lw_law_792 : decode b_Lw_law 792 = .ok (.invokevirtual 74, 3) := by decide +kernel
theorem d_Lw_law_795 : decode b_Lw_law 795 = .ok (.iload 5, 2) := by decide +kernel
theorem d_Lw_law_797 : decode b_Lw_law 797 = .ok (.if_icmp .eq 5, 3) := by decide +kernel
theorem d_Lw_law_800 : decode b_Lw_law 800 = .ok (.iconst 0, 1) := by decide +kernel
theorem d_Lw_law_801 : decode b_Lw_law 801 = .ok (.ireturn, 1) := by decide +kernel
theorem d_Lw_law_802 : decode b_Lw_law 802 = .ok (.iload 5, 2) := by decide +kernel
theorem d_Lw_law_804 : decode b_Lw_law 804 = .ok (.ifCond .ne 15, 3) := by decide +kernel
theorem d_Lw_law_807 : decode b_Lw_law 807 = .ok (.aload_n 3, 1) := by decide +kernel
theorem d_Lw_law_808 : decode b_Lw_law 808 = .ok (.iconst 0, 1) := by decide +kernel
theorem d_Lw_law_809 : decode b_Lw_law 809 = .ok (.laload, 1) := by decide +kernel
theorem d_Lw_law_810 : decode b_Lw_law 810 = .ok (.iload 6, 2) := by decide +kernel
theorem d_Lw_law_812 : decode b_Lw_law 812 = .ok (.i2l, 1) := by decide +kernel
theorem d_Lw_law_813 : decode b_Lw_law 813 = .ok (.lcmp, 1) := by decide +kernel
theorem d_Lw_law_814 : decode b_Lw_law 814 = .ok (.ifCond .eq 5, 3) := by decide +kernel
theorem d_Lw_law_817 : decode b_Lw_law 817 = .ok (.iconst 0, 1) := by decide +kernel
theorem d_Lw_law_818 : decode b_Lw_law 818 = .ok (.ireturn, 1) := by decide +kernel
theorem d_Lw_law_819 : decode b_Lw_law 819 = .ok (.goto 59, 3) := by decide +kernel
theorem d_Lw_law_822 : decode b_Lw_law 822 = .ok (.aload_n 1, 1) := by decide +kernel
theorem d_Lw_law_823 : decode b_Lw_law 823 = .ok (.aload_n 0, 1) := by decide +kernel
theorem d_Lw_law_824 : decode b_Lw_law 824 = .ok (.iload 4, 2) := by decide +kernel
theorem d_Lw_law_826 : decode b_Lw_law 826 = .ok (.iconst 1, 1) := by decide +kernel
theorem d_Lw_law_827 : decode b_Lw_law 827 = .ok (.iadd, 1) := by decide +kernel
theorem d_Lw_law_828 : decode b_Lw_law 828 = .ok (.iaload, 1) := by decide +kernel
theorem d_Lw_law_829 : decode b_Lw_law 829 = .ok (.aload_n 3, 1) := by decide +kernel
theorem d_Lw_law_830 : decode b_Lw_law 830 = .ok (.invokestatic 131, 3) := by decide +kernel
theorem d_Lw_law_833 : decode b_Lw_law 833 = .ok (.istore 5, 2) := by decide +kernel
theorem d_Lw_law_835 : decode b_Lw_law 835 = .ok (.aload_n 2, 1) := by decide +kernel
theorem d_Lw_law_836 : decode b_Lw_law 836 = .ok (.aload_n 0, 1) := by decide +kernel
theorem d_Lw_law_837 : decode b_Lw_law 837 = .ok (.iload 4, 2) := by decide +kernel
theorem d_Lw_law_839 : decode b_Lw_law 839 = .ok (.iconst 1, 1) := by decide +kernel
theorem d_Lw_law_840 : decode b_Lw_law 840 = .ok (.iadd, 1) := by decide +kernel
theorem d_Lw_law_841 : decode b_Lw_law 841 = .ok (.iaload, 1) := by decide +kernel
theorem d_Lw_law_842 : decode b_Lw_law 842 = .ok (.invokevirtual 133, 3) := by decide +kernel
theorem d_Lw_law_845 : decode b_Lw_law 845 = .ok (.istore 6, 2) := by decide +kernel
theorem d_Lw_law_847 : decode b_Lw_law 847 = .ok (.aload_n 2, 1) := by decide +kernel
theorem d_Lw_law_848 : decode b_Lw_law 848 = .ok (.invokevirtual 74, 3) := by decide +kernel
theorem d_Lw_law_851 : decode b_Lw_law 851 = .ok (.iload 5, 2) := by decide +kernel
theorem d_Lw_law_853 : decode b_Lw_law 853 = .ok (.if_icmp .eq 5, 3) := by decide +kernel
theorem d_Lw_law_856 : decode b_Lw_law 856 = .ok (.iconst 0, 1) := by decide +kernel
theorem d_Lw_law_857 : decode b_Lw_law 857 = .ok (.ireturn, 1) := by decide +kernel
theorem d_Lw_law_858 : decode b_Lw_law 858 = .ok (.iload 5, 2) := by decide +kernel
theorem d_Lw_law_860 : decode b_Lw_law 860 = .ok (.ifCond .ne 15, 3) := by decide +kernel
theorem d_Lw_law_863 : decode b_Lw_law 863 = .ok (.aload_n 3, 1) := by decide +kernel
theorem d_Lw_law_864 : decode b_Lw_law 864 = .ok (.iconst 0, 1) := by decide +kernel
theorem d_Lw_law_865 : decode b_Lw_law 865 = .ok (.laload, 1) := by decide +kernel
theorem d_Lw_law_866 : decode b_Lw_law 866 = .ok (.iload 6, 2) := by decide +kernel
theorem d_Lw_law_868 : decode b_Lw_law 868 = .ok (.i2l, 1) := by decide +kernel
theorem d_Lw_law_869 : decode b_Lw_law 869 = .ok (.lcmp, 1) := by decide +kernel
theorem d_Lw_law_870 : decode b_Lw_law 870 = .ok (.ifCond .eq 5, 3) := by decide +kernel
theorem d_Lw_law_873 : decode b_Lw_law 873 = .ok (.iconst 0, 1) := by decide +kernel
theorem d_Lw_law_874 : decode b_Lw_law 874 = .ok (.ireturn, 1) := by decide +kernel
theorem d_Lw_law_875 : decode b_Lw_law 875 = .ok (.goto 3, 3) := by decide +kernel
theorem d_Lw_law_878 : decode b_Lw_law 878 = .ok (.iinc 4 5, 3) := by decide +kernel
theorem d_Lw_law_881 : decode b_Lw_law 881 = .ok (.goto (-858), 3) := by decide +kernel
theorem d_Lw_law_884 : decode b_Lw_law 884 = .ok (.iconst 1, 1) := by decide +kernel
theorem d_Lw_law_885 : decode b_Lw_law 885 = .ok (.ireturn, 1) := by decide +kernel
