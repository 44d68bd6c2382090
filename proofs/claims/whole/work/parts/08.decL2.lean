theorem d_L_law_509 : decode b_L_law 509 = .ok (.lshl, 1) := by decide +kernel
theorem d_L_law_510 : decode b_L_law 510 = .ok (.aload_n 0, 1) := by decide +kernel
theorem d_L_law_511 : decode b_L_law 511 = .ok (.iload_n 3, 1) := by decide +kernel
theorem d_L_law_512 : decode b_L_law 512 = .ok (.bipush 6, 2) := by decide +kernel
theorem d_L_law_514 : decode b_L_law 514 = .ok (.iadd, 1) := by decide +kernel
theorem d_L_law_515 : decode b_L_law 515 = .ok (.iaload, 1) := by decide +kernel
theorem d_L_law_516 : decode b_L_law 516 = .ok (.i2l, 1) := by decide +kernel
theorem d_L_law_517 : decode b_L_law 517 = .ok (.ldc2_w 13, 3) := by decide +kernel
theorem d_L_law_520 : decode b_L_law 520 = .ok (.land, 1) := by decide +kernel
theorem d_L_law_521 : decode b_L_law 521 = .ok (.lor, 1) := by decide +kernel
theorem d_L_law_522 : decode b_L_law 522 = .ok (.invokevirtual 35, 3) := by decide +kernel
theorem d_L_law_525 : decode b_L_law 525 = .ok (.aload_n 2, 1) := by decide +kernel
theorem d_L_law_526 : decode b_L_law 526 = .ok (.aload_n 0, 1) := by decide +kernel
theorem d_L_law_527 : decode b_L_law 527 = .ok (.iload_n 3, 1) := by decide +kernel
theorem d_L_law_528 : decode b_L_law 528 = .ok (.iconst 1, 1) := by decide +kernel
theorem d_L_law_529 : decode b_L_law 529 = .ok (.iadd, 1) := by decide +kernel
theorem d_L_law_530 : decode b_L_law 530 = .ok (.iaload, 1) := by decide +kernel
theorem d_L_law_531 : decode b_L_law 531 = .ok (.i2l, 1) := by decide +kernel
theorem d_L_law_532 : decode b_L_law 532 = .ok (.bipush 32, 2) := by decide +kernel
theorem d_L_law_534 : decode b_L_law 534 = .ok (.lshl, 1) := by decide +kernel
theorem d_L_law_535 : decode b_L_law 535 = .ok (.aload_n 0, 1) := by decide +kernel
theorem d_L_law_536 : decode b_L_law 536 = .ok (.iload_n 3, 1) := by decide +kernel
theorem d_L_law_537 : decode b_L_law 537 = .ok (.iconst 2, 1) := by decide +kernel
theorem d_L_law_538 : decode b_L_law 538 = .ok (.iadd, 1) := by decide +kernel
theorem d_L_law_539 : decode b_L_law 539 = .ok (.iaload, 1) := by decide +kernel
theorem d_L_law_540 : decode b_L_law 540 = .ok (.i2l, 1) := by decide +kernel
theorem d_L_law_541 : decode b_L_law 541 = .ok (.ldc2_w 13, 3) := by decide +kernel
theorem d_L_law_544 : decode b_L_law 544 = .ok (.land, 1) := by decide +kernel
theorem d_L_law_545 : decode b_L_law 545 = .ok (.lor, 1) := by decide +kernel
theorem d_L_law_546 : decode b_L_law 546 = .ok (.aload_n 0, 1) := by decide +kernel
theorem d_L_law_547 : decode b_L_law 547 = .ok (.iload_n 3, 1) := by decide +kernel
theorem d_L_law_548 : decode b_L_law 548 = .ok (.iconst 3, 1) := by decide +kernel
theorem d_L_law_549 : decode b_L_law 549 = .ok (.iadd, 1) := by decide +kernel
theorem d_L_law_550 : decode b_L_law 550 = .ok (.iaload, 1) := by decide +kernel
theorem d_L_law_551 : decode b_L_law 551 = .ok (.i2l, 1) := by decide +kernel
theorem d_L_law_552 : decode b_L_law 552 = .ok (.bipush 32, 2) := by decide +kernel
theorem d_L_law_554 : decode b_L_law 554 = .ok (.lshl, 1) := by decide +kernel
theorem d_L_law_555 : decode b_L_law 555 = .ok (.aload_n 0, 1) := by decide +kernel
theorem d_L_law_556 : decode b_L_law 556 = .ok (.iload_n 3, 1) := by decide +kernel
theorem d_L_law_557 : decode b_L_law 557 = .ok (.iconst 4, 1) := by decide +kernel
theorem d_L_law_558 : decode b_L_law 558 = .ok (.iadd, 1) := by decide +kernel
theorem d_L_law_559 : decode b_L_law 559 = .ok (.iaload, 1) := by decide +kernel
theorem d_L_law_560 : decode b_L_law 560 = .ok (.i2l, 1) := by decide +kernel
theorem d_L_law_561 : decode b_L_law 561 = .ok (.ldc2_w 13, 3) := by decide +kernel
theorem d_L_law_564 : decode b_L_law 564 = .ok (.land, 1) := by decide +kernel
theorem d_L_law_565 : decode b_L_law 565 = .ok (.lor, 1) := by decide +kernel
theorem d_L_law_566 : decode b_L_law 566 = .ok (.aload_n 0, 1) := by decide +kernel
theorem d_L_law_567 : decode b_L_law 567 = .ok (.iload_n 3, 1) := by decide +kernel
theorem d_L_law_568 : decode b_L_law 568 = .ok (.iconst 5, 1) := by decide +kernel
theorem d_L_law_569 : decode b_L_law 569 = .ok (.iadd, 1) := by decide +kernel
theorem d_L_law_570 : decode b_L_law 570 = .ok (.iaload, 1) := by decide +kernel
theorem d_L_law_571 : decode b_L_law 571 = .ok (.i2l, 1) := by decide +kernel
theorem d_L_law_572 : decode b_L_law 572 = .ok (.bipush 32, 2) := by decide +kernel
theorem d_L_law_574 : decode b_L_law 574 = .ok (.lshl, 1) := by decide +kernel
theorem d_L_law_575 : decode b_L_law 575 = .ok (.aload_n 0, 1) := by decide +kernel
theorem d_L_law_576 : decode b_L_law 576 = .ok (.iload_n 3, 1) := by decide +kernel
theorem d_L_law_577 : decode b_L_law 577 = .ok (.bipush 6, 2) := by decide +kernel
theorem d_L_law_579 : decode b_L_law 579 = .ok (.iadd, 1) := by decide +kernel
theorem d_L_law_580 : decode b_L_law 580 = .ok (.iaload, 1) := by decide +kernel
theorem d_L_law_581 : decode b_L_law 581 = .ok (.i2l, 1) := by decide +kernel
theorem d_L_law_582 : decode b_L_law 582 = .ok (.ldc2_w 13, 3) := by decide +kernel
theorem d_L_law_585 : decode b_L_law 585 = .ok (.land, 1) := by decide +kernel
theorem d_L_law_586 : decode b_L_law 586 = .ok (.lor, 1) := by decide +kernel
theorem d_L_law_587 : decode b_L_law 587 = .ok (.invokevirtual 38, 3) := by decide +kernel
theorem d_L_law_590 : decode b_L_law 590 = .ok (.if_icmp .eq 370, 3) := by decide +kernel
theorem d_L_law_593 : decode b_L_law 593 = .ok (.iconst 0, 1) := by decide +kernel
theorem d_L_law_594 : decode b_L_law 594 = .ok (.ireturn, 1) := by decide +kernel
theorem d_L_law_595 : decode b_L_law 595 = .ok (.aload_n 1, 1) := by decide +kernel
theorem d_L_law_596 : decode b_L_law 596 = .ok (.aload_n 0, 1) := by decide +kernel
theorem d_L_law_597 : decode b_L_law 597 = .ok (.iload_n 3, 1) := by decide +kernel
theorem d_L_law_598 : decode b_L_law 598 = .ok (.iconst 1, 1) := by decide +kernel
theorem d_L_law_599 : decode b_L_law 599 = .ok (.iadd, 1) := by decide +kernel
theorem d_L_law_600 : decode b_L_law 600 = .ok (.iaload, 1) := by decide +kernel
theorem d_L_law_601 : decode b_L_law 601 = .ok (.aload_n 0, 1) := by decide +kernel
theorem d_L_law_602 : decode b_L_law 602 = .ok (.iload_n 3, 1) := by decide +kernel
theorem d_L_law_603 : decode b_L_law 603 = .ok (.iconst 2, 1) := by decide +kernel
theorem d_L_law_604 : decode b_L_law 604 = .ok (.iadd, 1) := by decide +kernel
theorem d_L_law_605 : decode b_L_law 605 = .ok (.iaload, 1) := by decide +kernel
theorem d_L_law_606 : decode b_L_law 606 = .ok (.invokevirtual 39, 3) := by decide +kernel
theorem d_L_law_609 : decode b_L_law 609 = .ok (.aload_n 2, 1) := by decide +kernel
theorem d_L_law_610 : decode b_L_law 610 = .ok (.aload_n 0, 1) := by decide +kernel
theorem d_L_law_611 : decode b_L_law 611 = .ok (.iload_n 3, 1) := by decide +kernel
theorem d_L_law_612 : decode b_L_law 612 = .ok (.iconst 1, 1) := by decide +kernel
theorem d_L_law_613 : decode b_L_law 613 = .ok (.iadd, 1) := by decide +kernel
theorem d_L_law_614 : decode b_L_law 614 = .ok (.iaload, 1) := by decide +kernel
theorem d_L_law_615 : decode b_L_law 615 = .ok (.aload_n 0, 1) := by decide +kernel
theorem d_L_law_616 : decode b_L_law 616 = .ok (.iload_n 3, 1) := by decide +kernel
theorem d_L_law_617 : decode b_L_law 617 = .ok (.iconst 2, 1) := by decide +kernel
theorem d_L_law_618 : decode b_L_law 618 = .ok (.iadd, 1) := by decide +kernel
theorem d_L_law_619 : decode b_L_law 619 = .ok (.iaload, 1) := by decide +kernel
theorem d_L_law_620 : decode b_L_law 620 = .ok (.invokevirtual 43, 3) := by decide +kernel
theorem d_L_law_623 : decode b_L_law 623 = .ok (.lcmp, 1) := by decide +kernel
theorem d_L_law_624 : decode b_L_law 624 = .ok (.ifCond .eq 336, 3) := by decide +kernel
theorem d_L_law_627 : decode b_L_law 627 = .ok (.iconst 0, 1) := by decide +kernel
theorem d_L_law_628 : decode b_L_law 628 = .ok (.ireturn, 1) := by decide +kernel
theorem d_L_law_629 : decode b_L_law 629 = .ok (.aload_n 1, 1) := by decide +kernel
theorem d_L_law_630 : decode b_L_law 630 = .ok (.aload_n 0, 1) := by decide +kernel
theorem d_L_law_631 : decode b_L_law 631 = .ok (.iload_n 3, 1) := by decide +kernel
theorem d_L_law_632 : decode b_L_law 632 = .ok (.iconst 1, 1) := by decide +kernel
theorem d_L_law_633 : decode b_L_law 633 = .ok (.iadd, 1) := by decide +kernel
theorem d_L_law_634 : decode b_L_law 634 = .ok (.iaload, 1) := by decide +kernel
theorem d_L_law_635 : decode b_L_law 635 = .ok (.aload_n 0, 1) := by decide +kernel
theorem d_L_law_636 : decode b_L_law 636 = .ok (.iload_n 3, 1) := by decide +kernel
theorem d_L_law_637 : decode b_L_law 637 = .ok (.iconst 2, 1) := by decide +kernel
theorem d_L_law_638 : decode b_L_law 638 = .ok (.iadd, 1) := by decide +kernel
theorem d_L_law_639 : decode b_L_law 639 = .ok (.iaload, 1) := by decide +kernel
theorem d_L_law_640 : decode b_L_law 640 = .ok (.aload_n 0, 1) := by decide +kernel
theorem d_L_law_641 : decode b_L_law 641 = .ok (.iload_n 3, 1) := by decide +kernel
theorem d_L_law_642 : decode b_L_law 642 = .ok (.iconst 3, 1) := by decide +kernel
theorem d_L_law_643 : decode b_L_law 643 = .ok (.iadd, 1) := by decide +kernel
theorem d_L_law_644 : decode b_L_law 644 = .ok (.iaload, 1) := by decide +kernel
theorem d_L_law_645 : decode b_L_law 645 = .ok (.invokevirtual 44, 3) := by decide +kernel
theorem d_L_law_648 : decode b_L_law 648 = .ok (.aload_n 2, 1) := by decide +kernel
theorem d_L_law_649 : decode b_L_law 649 = .ok (.aload_n 0, 1) := by decide +kernel
theorem d_L_law_650 : decode b_L_law 650 = .ok (.iload_n 3, 1) := by decide +kernel
theorem d_L_law_651 : decode b_L_law 651 = .ok (.iconst 1, 1) := by decide +kernel
theorem d_L_law_652 : decode b_L_law 652 = .ok (.iadd, 1) := by decide +kernel
theorem d_L_law_653 : decode b_L_law 653 = .ok (.iaload, 1) := by decide +kernel
theorem d_L_law_654 : decode b_L_law 654 = .ok (.aload_n 0, 1) := by decide +kernel
theorem d_L_law_655 : decode b_L_law 655 = .ok (.iload_n 3, 1) := by decide +kernel
theorem d_L_law_656 : decode b_L_law 656 = .ok (.iconst 2, 1) := by decide +kernel
theorem d_L_law_657 : decode b_L_law 657 = .ok (.iadd, 1) := by decide +kernel
theorem d_L_law_658 : decode b_L_law 658 = .ok (.iaload, 1) := by decide +kernel
theorem d_L_law_659 : decode b_L_law 659 = .ok (.aload_n 0, 1) := by decide +kernel
theorem d_L_law_660 : decode b_L_law 660 = .ok (.iload_n 3, 1) := by decide +kernel
theorem d_L_law_661 : decode b_L_law 661 = .ok (.iconst 3, 1) := by decide +kernel
theorem d_L_law_662 : decode b_L_law 662 = .ok (.iadd, 1) := by decide +kernel
theorem d_L_law_663 : decode b_L_law 663 = .ok (.iaload, 1) := by decide +kernel
theorem d_L_law_664 : decode b_L_law 664 = .ok (.invokevirtual 48, 3) := by decide +kernel
theorem d_L_law_667 : decode b_L_law 667 = .ok (.lcmp, 1) := by decide +kernel
theorem d_L_law_668 : decode b_L_law 668 = .ok (.ifCond .eq 292, 3) := by decide +kernel
theorem d_L_law_671 : decode b_L_law 671 = .ok (.iconst 0, 1) := by decide +kernel
theorem d_L_law_672 : decode b_L_law 672 = .ok (.ireturn, 1) := by decide +kernel
theorem d_L_law_673 : decode b_L_law 673 = .ok (.aload_n 1, 1) := by decide +kernel
theorem d_L_law_674 : decode b_L_law 674 = .ok (.aload_n 0, 1) := by decide +kernel
theorem d_L_law_675 : decode b_L_law 675 = .ok (.iload_n 3, 1) := by decide +kernel
theorem d_L_law_676 : decode b_L_law 676 = .ok (.iconst 1, 1) := by decide +kernel
theorem d_L_law_677 : decode b_L_law 677 = .ok (.iadd, 1) := by decide +kernel
theorem d_L_law_678 : decode b_L_law 678 = .ok (.iaload, 1) := by decide +kernel
theorem d_L_law_679 : decode b_L_law 679 = .ok (.invokevirtual 49, 3) := by decide +kernel
theorem d_L_law_682 : decode b_L_law 682 = .ok (.aload_n 2, 1) := by decide +kernel
theorem d_L_law_683 : decode b_L_law 683 = .ok (.aload_n 0, 1) := by decide +kernel
theorem d_L_law_684 : decode b_L_law 684 = .ok (.iload_n 3, 1) := by decide +kernel
theorem d_L_law_685 : decode b_L_law 685 = .ok (.iconst 1, 1) := by decide +kernel
theorem d_L_law_686 : decode b_L_law 686 = .ok (.iadd, 1) := by decide +kernel
theorem d_L_law_687 : decode b_L_law 687 = .ok (.iaload, 1) := by decide +kernel
theorem d_L_law_688 : decode b_L_law 688 = .ok (.invokevirtual 53, 3) := by decide +kernel
theorem d_L_law_691 : decode b_L_law 691 = .ok (.lcmp, 1) := by decide +kernel
theorem d_L_law_692 : decode b_L_law 692 = .ok (.ifCond .eq 268, 3) := by decide +kernel
theorem d_L_law_695 : decode b_L_law 695 = .ok (.iconst 0, 1) := by decide +kernel
theorem d_L_law_696 : decode b_L_law 696 = .ok (.ireturn, 1) := by decide +kernel
theorem d_L_law_697 : decode b_L_law 697 = .ok (.aload_n 1, 1) := by decide +kernel
theorem d_L_law_698 : decode b_L_law 698 = .ok (.aload_n 0, 1) := by decide +kernel
theorem d_L_law_699 : decode b_L_law 699 = .ok (.iload_n 3, 1) := by decide +kernel
theorem d_L_law_700 : decode b_L_law 700 = .ok (.iconst 1, 1) := by decide +kernel
theorem d_L_law_701 : decode b_L_law 701 = .ok (.iadd, 1) := by decide +kernel
theorem d_L_law_702 : decode b_L_law 702 = .ok (.iaload, 1) := by decide +kernel
theorem d_L_law_703 : decode b_L_law 703 = .ok (.i2l, 1) := by decide +kernel
theorem d_L_law_704 : decode b_L_law 704 = .ok (.bipush 32, 2) := by decide +kernel
theorem d_L_law_706 : decode b_L_law 706 = .ok (.lshl, 1) := by decide +kernel
theorem d_L_law_707 : decode b_L_law 707 = .ok (.aload_n 0, 1) := by decide +kernel
theorem d_L_law_708 : decode b_L_law 708 = .ok (.iload_n 3, 1) := by decide +kernel
theorem d_L_law_709 : decode b_L_law 709 = .ok (.iconst 2, 1) := by decide +kernel
theorem d_L_law_710 : decode b_L_law 710 = .ok (.iadd, 1) := by decide +kernel
theorem d_L_law_711 : decode b_L_law 711 = .ok (.iaload, 1) := by decide +kernel
theorem d_L_law_712 : decode b_L_law 712 = .ok (.i2l, 1) := by decide +kernel
theorem d_L_law_713 : decode b_L_law 713 = .ok (.ldc2_w 13, 3) := by decide +kernel
theorem d_L_law_716 : decode b_L_law 716 = .ok (.land, 1) := by decide +kernel
theorem d_L_law_717 : decode b_L_law 717 = .ok (.lor, 1) := by decide +kernel
theorem d_L_law_718 : decode b_L_law 718 = .ok (.aload_n 0, 1) := by decide +kernel
theorem d_L_law_719 : decode b_L_law 719 = .ok (.iload_n 3, 1) := by decide +kernel
theorem d_L_law_720 : decode b_L_law 720 = .ok (.iconst 3, 1) := by decide +kernel
theorem d_L_law_721 : decode b_L_law 721 = .ok (.iadd, 1) := by decide +kernel
theorem d_L_law_722 : decode b_L_law 722 = .ok (.iaload, 1) := by decide +kernel
theorem d_L_law_723 : decode b_L_law 723 = .ok (.i2l, 1) := by decide +kernel
theorem d_L_law_724 : decode b_L_law 724 = .ok (.bipush 32, 2) := by decide +kernel
theorem d_L_law_726 : decode b_L_law 726 = .ok (.lshl, 1) := by decide +kernel
theorem d_L_law_727 : decode b_L_law 727 = .ok (.aload_n 0, 1) := by decide +kernel
theorem d_L_law_728 : decode b_L_law 728 = .ok (.iload_n 3, 1) := by decide +kernel
theorem d_L_law_729 : decode b_L_law 729 = .ok (.iconst 4, 1) := by decide +kernel
theorem d_L_law_730 : decode b_L_law 730 = .ok (.iadd, 1) := by decide +kernel
theorem d_L_law_731 : decode b_L_law 731 = .ok (.iaload, 1) := by decide +kernel
theorem d_L_law_732 : decode b_L_law 732 = .ok (.i2l, 1) := by decide +kernel
theorem d_L_law_733 : decode b_L_law 733 = .ok (.ldc2_w 13, 3) := by decide +kernel
theorem d_L_law_736 : decode b_L_law 736 = .ok (.land, 1) := by decide +kernel
theorem d_L_law_737 : decode b_L_law 737 = .ok (.lor, 1) := by decide +kernel
theorem d_L_law_738 : decode b_L_law 738 = .ok (.invokevirtual 54, 3) := by decide +kernel
theorem d_L_law_741 : decode b_L_law 741 = .ok (.aload_n 2, 1) := by decide +kernel
theorem d_L_law_742 : decode b_L_law 742 = .ok (.aload_n 0, 1) := by decide +kernel
theorem d_L_law_743 : decode b_L_law 743 = .ok (.iload_n 3, 1) := by decide +kernel
theorem d_L_law_744 : decode b_L_law 744 = .ok (.iconst 1, 1) := by decide +kernel
theorem d_L_law_745 : decode b_L_law 745 = .ok (.iadd, 1) := by decide +kernel
theorem d_L_law_746 : decode b_L_law 746 = .ok (.iaload, 1) := by decide +kernel
theorem d_L_law_747 : decode b_L_law 747 = .ok (.i2l, 1) := by decide +kernel
theorem d_L_law_748 : decode b_L_law 748 = .ok (.bipush 32, 2) := by decide +kernel
theorem d_L_law_750 : decode b_L_law 750 = .ok (.lshl, 1) := by decide +kernel
theorem d_L_law_751 : decode b_L_law 751 = .ok (.aload_n 0, 1) := by decide +kernel
theorem d_L_law_752 : decode b_L_law 752 = .ok (.iload_n 3, 1) := by decide +kernel
theorem d_L_law_753 : decode b_L_law 753 = .ok (.iconst 2, 1) := by decide +kernel
theorem d_L_law_754 : decode b_L_law 754 = .ok (.iadd, 1) := by decide +kernel
theorem d_L_law_755 : decode b_L_law 755 = .ok (.iaload, 1) := by decide +kernel
theorem d_L_law_756 : decode b_L_law 756 = .ok (.i2l, 1) := by decide +kernel
theorem d_L_law_757 : decode b_L_law 757 = .ok (.ldc2_w 13, 3) := by decide +kernel
theorem d_L_law_760 : decode b_L_law 760 = .ok (.land, 1) := by decide +kernel
theorem d_L_law_761 : decode b_L_law 761 = .ok (.lor, 1) := by decide +kernel
theorem d_L_law_762 : decode b_L_law 762 = .ok (.aload_n 0, 1) := by decide +kernel
theorem d_L_law_763 : decode b_L_law 763 = .ok (.iload_n 3, 1) := by decide +kernel
theorem d_L_law_764 : decode b_L_law 764 = .ok (.iconst 3, 1) := by decide +kernel
theorem d_L_law_765 : decode b_L_law 765 = .ok (.iadd, 1) := by decide +kernel
theorem d_L_law_766 : decode b_L_law 766 = .ok (.iaload, 1) := by decide +kernel
theorem d_L_law_767 : decode b_L_law 767 = .ok (.i2l, 1) := by decide +kernel
theorem d_L_law_768 : decode b_L_law 768 = .ok (.bipush 32, 2) := by decide +kernel
theorem d_L_law_770 : decode b_L_law 770 = .ok (.lshl, 1) := by decide +kernel
theorem d_L_law_771 : decode b_L_law 771 = .ok (.aload_n 0, 1) := by decide +kernel
theorem d_L_law_772 : decode b_L_law 772 = .ok (.iload_n 3, 1) := by decide +kernel
theorem d_L_law_773 : decode b_L_law 773 = .ok (.iconst 4, 1) := by decide +kernel
theorem d_L_law_774 : decode b_L_law 774 = .ok (.iadd, 1) := by decide +kernel
theorem d_L_law_775 : decode b_L_law 775 = .ok (.iaload, 1) := by decide +kernel
theorem d_L_law_776 : decode b_L_law 776 = .ok (.i2l, 1) := by decide +kernel
theorem d_L_law_777 : decode b_L_law 777 = .ok (.ldc2_w 13, 3) := by decide +kernel
theorem d_L_law_780 : decode b_L_law 780 = .ok (.land, 1) := by decide +kernel
theorem d_L_law_781 : decode b_L_law 781 = .ok (.lor, 1) := by decide +kernel
theorem d_L_law_782 : decode b_L_law 782 = .ok (.invokevirtual 58, 3) := by decide +kernel
theorem d_L_law_785 : decode b_L_law 785 = .ok (.if_icmp .eq 175, 3) := by decide +kernel
theorem d_L_law_788 : decode b_L_law 788 = .ok (.iconst 0, 1) := by decide +kernel
theorem d_L_law_789 : decode b_L_law 789 = .ok (.ireturn, 1) := by decide +kernel
theorem d_L_law_790 : decode b_L_law 790 = .ok (.aload_n 1, 1) := by decide +kernel
theorem d_L_law_791 : decode b_L_law 791 = .ok (.aload_n 0, 1) := by decide +kernel
theorem d_L_law_792 : decode b_L_law 792 = .ok (.iload_n 3, 1) := by decide +kernel
theorem d_L_law_793 : decode b_L_law 793 = .ok (.iconst 1, 1) := by decide +kernel
theorem d_L_law_794 : decode b_L_law 794 = .ok (.iadd, 1) := by decide +kernel
theorem d_L_law_795 : decode b_L_law 795 = .ok (.iaload, 1) := by decide +kernel
theorem d_L_law_796 : decode b_L_law 796 = .ok (.invokevirtual 59, 3) := by decide +kernel
theorem d_L_law_799 : decode b_L_law 799 = .ok (.aload_n 2, 1) := by decide +kernel
theorem d_L_law_800 : decode b_L_law 800 = .ok (.aload_n 0, 1) := by decide +kernel
theorem d_L_law_801 : decode b_L_law 801 = .ok (.iload_n 3, 1) := by decide +kernel
theorem d_L_law_802 : decode b_L_law 802 = .ok (.iconst 1, 1) := by decide +kernel
theorem d_L_law_803 : decode b_L_law 803 = .ok (.iadd, 1) := by decide +kernel
theorem d_L_law_804 : decode b_L_law 804 = .ok (.iaload, 1) := by decide +kernel
theorem d_L_law_805 : decode b_L_law 805 = .ok (.invokevirtual 62, 3) := by decide +kernel
theorem d_L_law_808 : decode b_L_law 808 = .ok (.lcmp, 1) := by decide +kernel
theorem d_L_law_809 : decode b_L_law 809 = .ok (.ifCond .eq 151, 3) := by decide +kernel
theorem d_L_law_812 : decode b_L_law 812 = .ok (.iconst 0, 1) := by decide +kernel
theorem d_L_law_813 : decode b_L_law 813 = .ok (.ireturn, 1) := by decide +kernel
theorem d_L_law_814 : decode b_L_law 814 = .ok (.aload_n 1, 1) := by decide +kernel
theorem d_L_law_815 : decode b_L_law 815 = .ok (.aload_n 0, 1) := by decide +kernel
theorem d_L_law_816 : decode b_L_law 816 = .ok (.iload_n 3, 1) := by decide +kernel
theorem d_L_law_817 : decode b_L_law 817 = .ok (.iconst 1, 1) := by decide +kernel
theorem d_L_law_818 : decode b_L_law 818 = .ok (.iadd, 1) := by decide +kernel
theorem d_L_law_819 : decode b_L_law 819 = .ok (.iaload, 1) := by decide +kernel
theorem d_L_law_820 : decode b_L_law 820 = .ok (.i2l, 1) := by decide +kernel
theorem d_L_law_821 : decode b_L_law 821 = .ok (.bipush 32, 2) := by decide +kernel
theorem d_L_law_823 : decode b_L_law 823 = .ok (.lshl, 1) := by decide +kernel
theorem d_L_law_824 : decode b_L_law 824 = .ok (.aload_n 0, 1) := by decide +kernel
theorem d_L_law_825 : decode b_L_law 825 = .ok (.iload_n 3, 1) := by decide +kernel
theorem d_L_law_826 : decode b_L_law 826 = .ok (.iconst 2, 1) := by decide +kernel
theorem d_L_law_827 : decode b_L_law 827 = .ok (.iadd, 1) := by decide +kernel
theorem d_L_law_828 : decode b_L_law 828 = .ok (.iaload, 1) := by decide +kernel
theorem d_L_law_829 : decode b_L_law 829 = .ok (.i2l, 1) := by decide +kernel
theorem d_L_law_830 : decode b_L_law 830 = .ok (.ldc2_w 13, 3) := by decide +kernel
theorem d_L_law_833 : decode b_L_law 833 = .ok (.land, 1) := by decide +kernel
theorem d_L_law_834 : decode b_L_law 834 = .ok (.lor, 1) := by decide +kernel
theorem d_L_law_835 : decode b_L_law 835 = .ok (.aload_n 0, 1) := by decide +kernel
theorem d_L_law_836 : decode b_L_law 836 = .ok (.iload_n 3, 1) := by decide +kernel
theorem d_L_law_837 : decode b_L_law 837 = .ok (.iconst 3, 1) := by decide +kernel
theorem d_L_law_838 : decode b_L_law 838 = .ok (.iadd, 1) := by decide +kernel
theorem d_L_law_839 : decode b_L_law 839 = .ok (.iaload, 1) := by decide +kernel
theorem d_L_law_840 : decode b_L_law 840 = .ok (.i2l, 1) := by decide +kernel
theorem d_L_law_841 : decode b_L_law 841 = .ok (.bipush 32, 2) := by decide +kernel
theorem d_L_law_843 : decode b_L_law 843 = .ok (.lshl, 1) := by decide +kernel
theorem d_L_law_844 : decode b_L_law 844 = .ok (.aload_n 0, 1) := by decide +kernel
theorem d_L_law_845 : decode b_L_law 845 = .ok (.iload_n 3, 1) := by decide +kernel
theorem d_L_law_846 : decode b_L_law 846 = .ok (.iconst 4, 1) := by decide +kernel
theorem d_L_law_847 : decode b_L_law 847 = .ok (.iadd, 1) := by decide +kernel
theorem d_L_law_848 : decode b_L_law 848 = .ok (.iaload, 1) := by decide +kernel
theorem d_L_law_849 : decode b_L_law 849 = .ok (.i2l, 1) := by decide +kernel
theorem d_L_law_850 : decode b_L_law 850 = .ok (.ldc2_w 13, 3) := by decide +kernel
theorem d_L_law_853 : decode b_L_law 853 = .ok (.land, 1) := by decide +kernel
theorem d_L_law_854 : decode b_L_law 854 = .ok (.lor, 1) := by decide +kernel
theorem d_L_law_855 : decode b_L_law 855 = .ok (.aload_n 0, 1) := by decide +kernel
theorem d_L_law_856 : decode b_L_law 856 = .ok (.iload_n 3, 1) := by decide +kernel
theorem d_L_law_857 : decode b_L_law 857 = .ok (.iconst 5, 1) := by decide +kernel
theorem d_L_law_858 : decode b_L_law 858 = .ok (.iadd, 1) := by decide +kernel
theorem d_L_law_859 : decode b_L_law 859 = .ok (.iaload, 1) := by decide +kernel
theorem d_L_law_860 : decode b_L_law 860 = .ok (.i2l, 1) := by decide +kernel
theorem d_L_law_861 : decode b_L_law 861 = .ok (.bipush 32, 2) := by decide +kernel
theorem d_L_law_863 : decode b_L_law 863 = .ok (.lshl, 1) := by decide +kernel
theorem d_L_law_864 : decode b_L_law 864 = .ok (.aload_n 0, 1) := by decide +kernel
theorem d_L_law_865 : decode b_L_law 865 = .ok (.iload_n 3, 1) := by decide +kernel
theorem d_L_law_866 : decode b_L_law 866 = .ok (.bipush 6, 2) := by decide +kernel
theorem d_L_law_868 : decode b_L_law 868 = .ok (.iadd, 1) := by decide +kernel
theorem d_L_law_869 : decode b_L_law 869 = .ok (.iaload, 1) := by decide +kernel
theorem d_L_law_870 : decode b_L_law 870 = .ok (.i2l, 1) := by decide +kernel
theorem d_L_law_871 : decode b_L_law 871 = .ok (.ldc2_w 13, 3) := by decide +kernel
theorem d_L_law_874 : decode b_L_law 874 = .ok (.land, 1) := by decide +kernel
theorem d_L_law_875 : decode b_L_law 875 = .ok (.lor, 1) := by decide +kernel
theorem d_L_law_876 : decode b_L_law 876 = .ok (.invokevirtual 63, 3) := by decide +kernel
theorem d_L_law_879 : decode b_L_law 879 = .ok (.aload_n 2, 1) := by decide +kernel
theorem d_L_law_880 : decode b_L_law 880 = .ok (.aload_n 0, 1) := by decide +kernel
theorem d_L_law_881 : decode b_L_law 881 = .ok (.iload_n 3, 1) := by decide +kernel
theorem d_L_law_882 : decode b_L_law 882 = .ok (.iconst 1, 1) := by decide +kernel
theorem d_L_law_883 : decode b_L_law 883 = .ok (.iadd, 1) := by decide +kernel
theorem d_L_law_884 : decode b_L_law 884 = .ok (.iaload, 1) := by decide +kernel
theorem d_L_law_885 : decode b_L_law 885 = .ok (.i2l, 1) := by decide +kernel
theorem d_L_law_886 : decode b_L_law 886 = .ok (.bipush 32, 2) := by decide +kernel
theorem d_L_law_888 : decode b_L_law 888 = .ok (.lshl, 1) := by decide +kernel
theorem d_L_law_889 : decode b_L_law 889 = .ok (.aload_n 0, 1) := by decide +kernel
theorem d_L_law_890 : decode b_L_law 890 = .ok (.iload_n 3, 1) := by decide +kernel
theorem d_L_law_891 : decode b_L_law 891 = .ok (.iconst 2, 1) := by decide +kernel
theorem d_L_law_892 : decode b_L_law 892 = .ok (.iadd, 1) := by decide +kernel
theorem d_L_law_893 : decode b_L_law 893 = .ok (.iaload, 1) := by decide +kernel
theorem d_L_law_894 : decode b_L_law 894 = .ok (.i2l, 1) := by decide +kernel
theorem d_L_law_895 : decode b_L_law 895 = .ok (.ldc2_w 13, 3) := by decide +kernel
theorem d_L_law_898 : decode b_L_law 898 = .ok (.land, 1) := by decide +kernel
theorem d_L_law_899 : decode b_L_law 899 = .ok (.lor, 1) := by decide +kernel
theorem d_L_law_900 : decode b_L_law 900 = .ok (.aload_n 0, 1) := by decide +kernel
theorem d_L_law_901 : decode b_L_law 901 = .ok (.iload_n 3, 1) := by decide +kernel
theorem d_L_law_902 : decode b_L_law 902 = .ok (.iconst 3, 1) := by decide +kernel
theorem d_L_law_903 : decode b_L_law 903 = .ok (.iadd, 1) := by decide +kernel
theorem d_L_law_904 : decode b_L_law 904 = .ok (.iaload, 1) := by decide +kernel
theorem d_L_law_905 : decode b_L_law 905 = .ok (.i2l, 1) := by decide +kernel
theorem d_L_law_906 : decode b_L_law 906 = .ok (.bipush 32, 2) := by decide +kernel
theorem d_L_law_908 : decode b_L_law 908 = .ok (.lshl, 1) := by decide +kernel
theorem d_L_law_909 : decode b_L_law 909 = .ok (.aload_n 0, 1) := by decide +kernel
theorem d_L_law_910 : decode b_L_law 910 = .ok (.iload_n 3, 1) := by decide +kernel
theorem d_L_law_911 : decode b_L_law 911 = .ok (.iconst 4, 1) := by decide +kernel
theorem d_L_law_912 : decode b_L_law 912 = .ok (.iadd, 1) := by decide +kernel
theorem d_L_law_913 : decode b_L_law 913 = .ok (.iaload, 1) := by decide +kernel
theorem d_L_law_914 : decode b_L_law 914 = .ok (.i2l, 1) := by decide +kernel
theorem d_L_law_915 : decode b_L_law 915 = .ok (.ldc2_w 13, 3) := by decide +kernel
theorem d_L_law_918 : decode b_L_law 918 = .ok (.land, 1) := by decide +kernel
theorem d_L_law_919 : decode b_L_law 919 = .ok (.lor, 1) := by decide +kernel
theorem d_L_law_920 : decode b_L_law 920 = .ok (.aload_n 0, 1) := by decide +kernel
theorem d_L_law_921 : decode b_L_law 921 = .ok (.iload_n 3, 1) := by decide +kernel
theorem d_L_law_922 : decode b_L_law 922 = .ok (.iconst 5, 1) := by decide +kernel
theorem d_L_law_923 : decode b_L_law 923 = .ok (.iadd, 1) := by decide +kernel
theorem d_L_law_924 : decode b_L_law 924 = .ok (.iaload, 1) := by decide +kernel
theorem d_L_law_925 : decode b_L_law 925 = .ok (.i2l, 1) := by decide +kernel
theorem d_L_law_926 : decode b_L_law 926 = .ok (.bipush 32, 2) := by decide +kernel
theorem d_L_law_928 : decode b_L_law 928 = .ok (.lshl, 1) := by decide +kernel
theorem d_L_law_929 : decode b_L_law 929 = .ok (.aload_n 0, 1) := by decide +kernel
theorem d_L_law_930 : decode b_L_law 930 = .ok (.iload_n 3, 1) := by decide +kernel
theorem d_L_law_931 : decode b_L_law 931 = .ok (.bipush 6, 2) := by decide +kernel
theorem d_L_law_933 : decode b_L_law 933 = .ok (.iadd, 1) := by decide +kernel
theorem d_L_law_934 : decode b_L_law 934 = .ok (.iaload, 1) := by decide +kernel
theorem d_L_law_935 : decode b_L_law 935 = .ok (.i2l, 1) := by decide +kernel
theorem d_L_law_936 : decode b_L_law 936 = .ok (.ldc2_w 13, 3) := by decide +kernel
theorem d_L_law_939 : decode b_L_law 939 = .ok (.land, 1) := by decide +kernel
theorem d_L_law_940 : decode b_L_law 940 = .ok (.lor, 1) := by decide +kernel
theorem d_L_law_941 : decode b_L_law 941 = .ok (.invokevirtual 67, 3) := by decide +kernel
theorem d_L_law_944 : decode b_L_law 944 = .ok (.if_icmp .eq 16, 3) := by decide +kernel
theorem d_L_law_947 : decode b_L_law 947 = .ok (.iconst 0, 1) := by decide +kernel
theorem d_L_law_948 : decode b_L_law 948 = .ok (.ireturn, 1) := by decide +kernel
theorem d_L_law_949 : decode b_L_law 949 = .ok (.aload_n 1, 1) := by decide +kernel
theorem d_L_law_950 : decode b_L_law 950 = .ok (.invokevirtual 68, 3) := by decide +kernel
theorem d_L_law_953 : decode b_L_law 953 = .ok (.aload_n 2, 1) := by decide +kernel
theorem d_L_law_954 : decode b_L_law 954 = .ok (.invokevirtual 71, 3) := by decide +kernel
theorem d_L_law_957 : decode b_L_law 957 = .ok (.goto 3, 3) := by decide +kernel
theorem d_L_law_960 : decode b_L_law 960 = .ok (.iinc 3 7, 3) := by decide +kernel
theorem d_L_law_963 : decode b_L_law 963 = .ok (.goto (-945), 3) := by decide +kernel
theorem d_L_law_966 : decode b_L_law 966 = .ok (.iconst 1, 1) := by decide +kernel
theorem d_L_law_967 : decode b_L_law 967 = .ok (.ireturn, 1) := by decide +kernel
