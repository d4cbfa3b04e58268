theorem d_La_540 : decode code 540 = .ok (.aload_n 2, 1) := by decide +kernel
theorem d_La_541 : decode code 541 = .ok (.aload_n 0, 1) := by decide +kernel
theorem d_La_542 : decode code 542 = .ok (.iload_n 3, 1) := by decide +kernel
theorem d_La_543 : decode code 543 = .ok (.iconst 1, 1) := by decide +kernel
theorem d_La_544 : decode code 544 = .ok (.iadd, 1) := by decide +kernel
theorem d_La_545 : decode code 545 = .ok (.iaload, 1) := by decide +kernel
theorem d_La_546 : decode code 546 = .ok (.aload_n 0, 1) := by decide +kernel
theorem d_La_547 : decode code 547 = .ok (.iload_n 3, 1) := by decide +kernel
theorem d_La_548 : decode code 548 = .ok (.iconst 2, 1) := by decide +kernel
theorem d_La_549 : decode code 549 = .ok (.iadd, 1) := by decide +kernel
theorem d_La_550 : decode code 550 = .ok (.iaload, 1) := by decide +kernel
theorem d_La_551 : decode code 551 = .ok (.invokevirtual 54, 3) := by decide +kernel
theorem d_La_554 : decode code 554 = .ok (.if_icmp .eq 1451, 3) := by decide +kernel
theorem d_La_557 : decode code 557 = .ok (.iconst 0, 1) := by decide +kernel
theorem d_La_558 : decode code 558 = .ok (.ireturn, 1) := by decide +kernel
theorem d_La_559 : decode code 559 = .ok (.aload_n 1, 1) := by decide +kernel
theorem d_La_560 : decode code 560 = .ok (.aload_n 0, 1) := by decide +kernel
theorem d_La_561 : decode code 561 = .ok (.iload_n 3, 1) := by decide +kernel
theorem d_La_562 : decode code 562 = .ok (.iconst 1, 1) := by decide +kernel
theorem d_La_563 : decode code 563 = .ok (.iadd, 1) := by decide +kernel
theorem d_La_564 : decode code 564 = .ok (.iaload, 1) := by decide +kernel
theorem d_La_565 : decode code 565 = .ok (.invokevirtual 55, 3) := by decide +kernel
theorem d_La_568 : decode code 568 = .ok (.aload_n 2, 1) := by decide +kernel
theorem d_La_569 : decode code 569 = .ok (.aload_n 0, 1) := by decide +kernel
theorem d_La_570 : decode code 570 = .ok (.iload_n 3, 1) := by decide +kernel
theorem d_La_571 : decode code 571 = .ok (.iconst 1, 1) := by decide +kernel
theorem d_La_572 : decode code 572 = .ok (.iadd, 1) := by decide +kernel
theorem d_La_573 : decode code 573 = .ok (.iaload, 1) := by decide +kernel
theorem d_La_574 : decode code 574 = .ok (.invokevirtual 58, 3) := by decide +kernel
theorem d_La_577 : decode code 577 = .ok (.if_icmp .eq 1428, 3) := by decide +kernel
theorem d_La_580 : decode code 580 = .ok (.iconst 0, 1) := by decide +kernel
theorem d_La_581 : decode code 581 = .ok (.ireturn, 1) := by decide +kernel
theorem d_La_582 : decode code 582 = .ok (.aload_n 1, 1) := by decide +kernel
theorem d_La_583 : decode code 583 = .ok (.aload_n 0, 1) := by decide +kernel
theorem d_La_584 : decode code 584 = .ok (.iload_n 3, 1) := by decide +kernel
theorem d_La_585 : decode code 585 = .ok (.iconst 1, 1) := by decide +kernel
theorem d_La_586 : decode code 586 = .ok (.iadd, 1) := by decide +kernel
theorem d_La_587 : decode code 587 = .ok (.iaload, 1) := by decide +kernel
theorem d_La_588 : decode code 588 = .ok (.invokevirtual 59, 3) := by decide +kernel
theorem d_La_591 : decode code 591 = .ok (.aload_n 2, 1) := by decide +kernel
theorem d_La_592 : decode code 592 = .ok (.aload_n 0, 1) := by decide +kernel
theorem d_La_593 : decode code 593 = .ok (.iload_n 3, 1) := by decide +kernel
theorem d_La_594 : decode code 594 = .ok (.iconst 1, 1) := by decide +kernel
theorem d_La_595 : decode code 595 = .ok (.iadd, 1) := by decide +kernel
theorem d_La_596 : decode code 596 = .ok (.iaload, 1) := by decide +kernel
theorem d_La_597 : decode code 597 = .ok (.invokevirtual 62, 3) := by decide +kernel
theorem d_La_600 : decode code 600 = .ok (.if_icmp .eq 1405, 3) := by decide +kernel
theorem d_La_603 : decode code 603 = .ok (.iconst 0, 1) := by decide +kernel
theorem d_La_604 : decode code 604 = .ok (.ireturn, 1) := by decide +kernel
theorem d_La_605 : decode code 605 = .ok (.aload_n 1, 1) := by decide +kernel
theorem d_La_606 : decode code 606 = .ok (.aload_n 0, 1) := by decide +kernel
theorem d_La_607 : decode code 607 = .ok (.iload_n 3, 1) := by decide +kernel
theorem d_La_608 : decode code 608 = .ok (.iconst 1, 1) := by decide +kernel
theorem d_La_609 : decode code 609 = .ok (.iadd, 1) := by decide +kernel
theorem d_La_610 : decode code 610 = .ok (.iaload, 1) := by decide +kernel
theorem d_La_611 : decode code 611 = .ok (.aload_n 0, 1) := by decide +kernel
theorem d_La_612 : decode code 612 = .ok (.iload_n 3, 1) := by decide +kernel
theorem d_La_613 : decode code 613 = .ok (.iconst 2, 1) := by decide +kernel
theorem d_La_614 : decode code 614 = .ok (.iadd, 1) := by decide +kernel
theorem d_La_615 : decode code 615 = .ok (.iaload, 1) := by decide +kernel
theorem d_La_616 : decode code 616 = .ok (.invokevirtual 63, 3) := by decide +kernel
theorem d_La_619 : decode code 619 = .ok (.aload_n 2, 1) := by decide +kernel
theorem d_La_620 : decode code 620 = .ok (.aload_n 0, 1) := by decide +kernel
theorem d_La_621 : decode code 621 = .ok (.iload_n 3, 1) := by decide +kernel
theorem d_La_622 : decode code 622 = .ok (.iconst 1, 1) := by decide +kernel
theorem d_La_623 : decode code 623 = .ok (.iadd, 1) := by decide +kernel
theorem d_La_624 : decode code 624 = .ok (.iaload, 1) := by decide +kernel
theorem d_La_625 : decode code 625 = .ok (.aload_n 0, 1) := by decide +kernel
theorem d_La_626 : decode code 626 = .ok (.iload_n 3, 1) := by decide +kernel
theorem d_La_627 : decode code 627 = .ok (.iconst 2, 1) := by decide +kernel
theorem d_La_628 : decode code 628 = .ok (.iadd, 1) := by decide +kernel
theorem d_La_629 : decode code 629 = .ok (.iaload, 1) := by decide +kernel
theorem d_La_630 : decode code 630 = .ok (.invokevirtual 66, 3) := by decide +kernel
theorem d_La_633 : decode code 633 = .ok (.if_icmp .eq 1372, 3) := by decide +kernel
theorem d_La_636 : decode code 636 = .ok (.iconst 0, 1) := by decide +kernel
theorem d_La_637 : decode code 637 = .ok (.ireturn, 1) := by decide +kernel
theorem d_La_638 : decode code 638 = .ok (.aload_n 1, 1) := by decide +kernel
theorem d_La_639 : decode code 639 = .ok (.invokevirtual 67, 3) := by decide +kernel
theorem d_La_642 : decode code 642 = .ok (.aload_n 2, 1) := by decide +kernel
theorem d_La_643 : decode code 643 = .ok (.invokevirtual 70, 3) := by decide +kernel
theorem d_La_646 : decode code 646 = .ok (.if_icmp .eq 1359, 3) := by decide +kernel
theorem d_La_649 : decode code 649 = .ok (.iconst 0, 1) := by decide +kernel
theorem d_La_650 : decode code 650 = .ok (.ireturn, 1) := by decide +kernel
theorem d_La_651 : decode code 651 = .ok (.aload_n 1, 1) := by decide +kernel
theorem d_La_652 : decode code 652 = .ok (.aload_n 0, 1) := by decide +kernel
theorem d_La_653 : decode code 653 = .ok (.iload_n 3, 1) := by decide +kernel
theorem d_La_654 : decode code 654 = .ok (.iconst 1, 1) := by decide +kernel
theorem d_La_655 : decode code 655 = .ok (.iadd, 1) := by decide +kernel
theorem d_La_656 : decode code 656 = .ok (.iaload, 1) := by decide +kernel
theorem d_La_657 : decode code 657 = .ok (.aload_n 0, 1) := by decide +kernel
theorem d_La_658 : decode code 658 = .ok (.iload_n 3, 1) := by decide +kernel
theorem d_La_659 : decode code 659 = .ok (.iconst 2, 1) := by decide +kernel
theorem d_La_660 : decode code 660 = .ok (.iadd, 1) := by decide +kernel
theorem d_La_661 : decode code 661 = .ok (.iaload, 1) := by decide +kernel
theorem d_La_662 : decode code 662 = .ok (.invokevirtual 71, 3) := by decide +kernel
theorem d_La_665 : decode code 665 = .ok (.aload_n 2, 1) := by decide +kernel
theorem d_La_666 : decode code 666 = .ok (.aload_n 0, 1) := by decide +kernel
theorem d_La_667 : decode code 667 = .ok (.iload_n 3, 1) := by decide +kernel
theorem d_La_668 : decode code 668 = .ok (.iconst 1, 1) := by decide +kernel
theorem d_La_669 : decode code 669 = .ok (.iadd, 1) := by decide +kernel
theorem d_La_670 : decode code 670 = .ok (.iaload, 1) := by decide +kernel
theorem d_La_671 : decode code 671 = .ok (.aload_n 0, 1) := by decide +kernel
theorem d_La_672 : decode code 672 = .ok (.iload_n 3, 1) := by decide +kernel
theorem d_La_673 : decode code 673 = .ok (.iconst 2, 1) := by decide +kernel
theorem d_La_674 : decode code 674 = .ok (.iadd, 1) := by decide +kernel
theorem d_La_675 : decode code 675 = .ok (.iaload, 1) := by decide +kernel
theorem d_La_676 : decode code 676 = .ok (.invokevirtual 74, 3) := by decide +kernel
theorem d_La_679 : decode code 679 = .ok (.if_icmp .eq 1326, 3) := by decide +kernel
theorem d_La_682 : decode code 682 = .ok (.iconst 0, 1) := by decide +kernel
theorem d_La_683 : decode code 683 = .ok (.ireturn, 1) := by decide +kernel
theorem d_La_684 : decode code 684 = .ok (.aload_n 1, 1) := by decide +kernel
theorem d_La_685 : decode code 685 = .ok (.aload_n 0, 1) := by decide +kernel
theorem d_La_686 : decode code 686 = .ok (.iload_n 3, 1) := by decide +kernel
theorem d_La_687 : decode code 687 = .ok (.iconst 1, 1) := by decide +kernel
theorem d_La_688 : decode code 688 = .ok (.iadd, 1) := by decide +kernel
theorem d_La_689 : decode code 689 = .ok (.iaload, 1) := by decide +kernel
theorem d_La_690 : decode code 690 = .ok (.aload_n 0, 1) := by decide +kernel
theorem d_La_691 : decode code 691 = .ok (.iload_n 3, 1) := by decide +kernel
theorem d_La_692 : decode code 692 = .ok (.iconst 2, 1) := by decide +kernel
theorem d_La_693 : decode code 693 = .ok (.iadd, 1) := by decide +kernel
theorem d_La_694 : decode code 694 = .ok (.iaload, 1) := by decide +kernel
theorem d_La_695 : decode code 695 = .ok (.invokevirtual 75, 3) := by decide +kernel
theorem d_La_698 : decode code 698 = .ok (.aload_n 2, 1) := by decide +kernel
theorem d_La_699 : decode code 699 = .ok (.aload_n 0, 1) := by decide +kernel
theorem d_La_700 : decode code 700 = .ok (.iload_n 3, 1) := by decide +kernel
theorem d_La_701 : decode code 701 = .ok (.iconst 1, 1) := by decide +kernel
theorem d_La_702 : decode code 702 = .ok (.iadd, 1) := by decide +kernel
theorem d_La_703 : decode code 703 = .ok (.iaload, 1) := by decide +kernel
theorem d_La_704 : decode code 704 = .ok (.aload_n 0, 1) := by decide +kernel
theorem d_La_705 : decode code 705 = .ok (.iload_n 3, 1) := by decide +kernel
theorem d_La_706 : decode code 706 = .ok (.iconst 2, 1) := by decide +kernel
theorem d_La_707 : decode code 707 = .ok (.iadd, 1) := by decide +kernel
theorem d_La_708 : decode code 708 = .ok (.iaload, 1) := by decide +kernel
theorem d_La_709 : decode code 709 = .ok (.invokevirtual 78, 3) := by decide +kernel
theorem d_La_712 : decode code 712 = .ok (.if_icmp .eq 1293, 3) := by decide +kernel
theorem d_La_715 : decode code 715 = .ok (.iconst 0, 1) := by decide +kernel
theorem d_La_716 : decode code 716 = .ok (.ireturn, 1) := by decide +kernel
theorem d_La_717 : decode code 717 = .ok (.aload_n 1, 1) := by decide +kernel
theorem d_La_718 : decode code 718 = .ok (.aload_n 0, 1) := by decide +kernel
theorem d_La_719 : decode code 719 = .ok (.iload_n 3, 1) := by decide +kernel
theorem d_La_720 : decode code 720 = .ok (.iconst 1, 1) := by decide +kernel
theorem d_La_721 : decode code 721 = .ok (.iadd, 1) := by decide +kernel
theorem d_La_722 : decode code 722 = .ok (.iaload, 1) := by decide +kernel
theorem d_La_723 : decode code 723 = .ok (.invokevirtual 79, 3) := by decide +kernel
theorem d_La_726 : decode code 726 = .ok (.aload_n 2, 1) := by decide +kernel
theorem d_La_727 : decode code 727 = .ok (.aload_n 0, 1) := by decide +kernel
theorem d_La_728 : decode code 728 = .ok (.iload_n 3, 1) := by decide +kernel
theorem d_La_729 : decode code 729 = .ok (.iconst 1, 1) := by decide +kernel
theorem d_La_730 : decode code 730 = .ok (.iadd, 1) := by decide +kernel
theorem d_La_731 : decode code 731 = .ok (.iaload, 1) := by decide +kernel
theorem d_La_732 : decode code 732 = .ok (.invokevirtual 82, 3) := by decide +kernel
theorem d_La_735 : decode code 735 = .ok (.if_icmp .eq 1270, 3) := by decide +kernel
theorem d_La_738 : decode code 738 = .ok (.iconst 0, 1) := by decide +kernel
theorem d_La_739 : decode code 739 = .ok (.ireturn, 1) := by decide +kernel
theorem d_La_740 : decode code 740 = .ok (.aload_n 1, 1) := by decide +kernel
theorem d_La_741 : decode code 741 = .ok (.aload_n 0, 1) := by decide +kernel
theorem d_La_742 : decode code 742 = .ok (.iload_n 3, 1) := by decide +kernel
theorem d_La_743 : decode code 743 = .ok (.iconst 1, 1) := by decide +kernel
theorem d_La_744 : decode code 744 = .ok (.iadd, 1) := by decide +kernel
theorem d_La_745 : decode code 745 = .ok (.iaload, 1) := by decide +kernel
theorem d_La_746 : decode code 746 = .ok (.aload_n 0, 1) := by decide +kernel
theorem d_La_747 : decode code 747 = .ok (.iload_n 3, 1) := by decide +kernel
theorem d_La_748 : decode code 748 = .ok (.iconst 2, 1) := by decide +kernel
theorem d_La_749 : decode code 749 = .ok (.iadd, 1) := by decide +kernel
theorem d_La_750 : decode code 750 = .ok (.iaload, 1) := by decide +kernel
theorem d_La_751 : decode code 751 = .ok (.invokevirtual 83, 3) := by decide +kernel
theorem d_La_754 : decode code 754 = .ok (.aload_n 2, 1) := by decide +kernel
theorem d_La_755 : decode code 755 = .ok (.aload_n 0, 1) := by decide +kernel
theorem d_La_756 : decode code 756 = .ok (.iload_n 3, 1) := by decide +kernel
theorem d_La_757 : decode code 757 = .ok (.iconst 1, 1) := by decide +kernel
theorem d_La_758 : decode code 758 = .ok (.iadd, 1) := by decide +kernel
theorem d_La_759 : decode code 759 = .ok (.iaload, 1) := by decide +kernel
theorem d_La_760 : decode code 760 = .ok (.aload_n 0, 1) := by decide +kernel
theorem d_La_761 : decode code 761 = .ok (.iload_n 3, 1) := by decide +kernel
theorem d_La_762 : decode code 762 = .ok (.iconst 2, 1) := by decide +kernel
theorem d_La_763 : decode code 763 = .ok (.iadd, 1) := by decide +kernel
theorem d_La_764 : decode code 764 = .ok (.iaload, 1) := by decide +kernel
theorem d_La_765 : decode code 765 = .ok (.invokevirtual 86, 3) := by decide +kernel
theorem d_La_768 : decode code 768 = .ok (.if_icmp .eq 1237, 3) := by decide +kernel
theorem d_La_771 : decode code 771 = .ok (.iconst 0, 1) := by decide +kernel
theorem d_La_772 : decode code 772 = .ok (.ireturn, 1) := by decide +kernel
theorem d_La_773 : decode code 773 = .ok (.aload_n 1, 1) := by decide +kernel
theorem d_La_774 : decode code 774 = .ok (.aload_n 0, 1) := by decide +kernel
theorem d_La_775 : decode code 775 = .ok (.iload_n 3, 1) := by decide +kernel
theorem d_La_776 : decode code 776 = .ok (.iconst 1, 1) := by decide +kernel
theorem d_La_777 : decode code 777 = .ok (.iadd, 1) := by decide +kernel
theorem d_La_778 : decode code 778 = .ok (.iaload, 1) := by decide +kernel
theorem d_La_779 : decode code 779 = .ok (.aload_n 0, 1) := by decide +kernel
theorem d_La_780 : decode code 780 = .ok (.iload_n 3, 1) := by decide +kernel
theorem d_La_781 : decode code 781 = .ok (.iconst 2, 1) := by decide +kernel
theorem d_La_782 : decode code 782 = .ok (.iadd, 1) := by decide +kernel
theorem d_La_783 : decode code 783 = .ok (.iaload, 1) := by decide +kernel
theorem d_La_784 : decode code 784 = .ok (.invokevirtual 87, 3) := by decide +kernel
theorem d_La_787 : decode code 787 = .ok (.aload_n 2, 1) := by decide +kernel
theorem d_La_788 : decode code 788 = .ok (.aload_n 0, 1) := by decide +kernel
theorem d_La_789 : decode code 789 = .ok (.iload_n 3, 1) := by decide +kernel
theorem d_La_790 : decode code 790 = .ok (.iconst 1, 1) := by decide +kernel
theorem d_La_791 : decode code 791 = .ok (.iadd, 1) := by decide +kernel
theorem d_La_792 : decode code 792 = .ok (.iaload, 1) := by decide +kernel
theorem d_La_793 : decode code 793 = .ok (.aload_n 0, 1) := by decide +kernel
theorem d_La_794 : decode code 794 = .ok (.iload_n 3, 1) := by decide +kernel
theorem d_La_795 : decode code 795 = .ok (.iconst 2, 1) := by decide +kernel
theorem d_La_796 : decode code 796 = .ok (.iadd, 1) := by decide +kernel
theorem d_La_797 : decode code 797 = .ok (.iaload, 1) := by decide +kernel
theorem d_La_798 : decode code 798 = .ok (.invokevirtual 90, 3) := by decide +kernel
theorem d_La_801 : decode code 801 = .ok (.if_icmp .eq 1204, 3) := by decide +kernel
theorem d_La_804 : decode code 804 = .ok (.iconst 0, 1) := by decide +kernel
theorem d_La_805 : decode code 805 = .ok (.ireturn, 1) := by decide +kernel
theorem d_La_806 : decode code 806 = .ok (.aload_n 1, 1) := by decide +kernel
theorem d_La_807 : decode code 807 = .ok (.aload_n 0, 1) := by decide +kernel
theorem d_La_808 : decode code 808 = .ok (.iload_n 3, 1) := by decide +kernel
theorem d_La_809 : decode code 809 = .ok (.iconst 1, 1) := by decide +kernel
theorem d_La_810 : decode code 810 = .ok (.iadd, 1) := by decide +kernel
theorem d_La_811 : decode code 811 = .ok (.iaload, 1) := by decide +kernel
theorem d_La_812 : decode code 812 = .ok (.invokevirtual 91, 3) := by decide +kernel
theorem d_La_815 : decode code 815 = .ok (.aload_n 2, 1) := by decide +kernel
theorem d_La_816 : decode code 816 = .ok (.aload_n 0, 1) := by decide +kernel
theorem d_La_817 : decode code 817 = .ok (.iload_n 3, 1) := by decide +kernel
theorem d_La_818 : decode code 818 = .ok (.iconst 1, 1) := by decide +kernel
theorem d_La_819 : decode code 819 = .ok (.iadd, 1) := by decide +kernel
