theorem d_L_law_533 : decode code 533 = .ok (.iadd, 1) := by decide +kernel
theorem d_L_law_534 : decode code 534 = .ok (.iaload, 1) := by decide +kernel
theorem d_L_law_535 : decode code 535 = .ok (.aload_n 0, 1) := by decide +kernel
theorem d_L_law_536 : decode code 536 = .ok (.iload_n 3, 1) := by decide +kernel
theorem d_L_law_537 : decode code 537 = .ok (.iconst 2, 1) := by decide +kernel
theorem d_L_law_538 : decode code 538 = .ok (.iadd, 1) := by decide +kernel
theorem d_L_law_539 : decode code 539 = .ok (.iaload, 1) := by decide +kernel
theorem d_L_law_540 : decode code 540 = .ok (.i2l, 1) := by decide +kernel
theorem d_L_law_541 : decode code 541 = .ok (.bipush 32, 2) := by decide +kernel
theorem d_L_law_543 : decode code 543 = .ok (.lshl, 1) := by decide +kernel
theorem d_L_law_544 : decode code 544 = .ok (.aload_n 0, 1) := by decide +kernel
theorem d_L_law_545 : decode code 545 = .ok (.iload_n 3, 1) := by decide +kernel
theorem d_L_law_546 : decode code 546 = .ok (.iconst 3, 1) := by decide +kernel
theorem d_L_law_547 : decode code 547 = .ok (.iadd, 1) := by decide +kernel
theorem d_L_law_548 : decode code 548 = .ok (.iaload, 1) := by decide +kernel
theorem d_L_law_549 : decode code 549 = .ok (.i2l, 1) := by decide +kernel
theorem d_L_law_550 : decode code 550 = .ok (.ldc2_w 18, 3) := by decide +kernel
theorem d_L_law_553 : decode code 553 = .ok (.land, 1) := by decide +kernel
theorem d_L_law_554 : decode code 554 = .ok (.lor, 1) := by decide +kernel
theorem d_L_law_555 : decode code 555 = .ok (.aload_n 0, 1) := by decide +kernel
theorem d_L_law_556 : decode code 556 = .ok (.iload_n 3, 1) := by decide +kernel
theorem d_L_law_557 : decode code 557 = .ok (.iconst 4, 1) := by decide +kernel
theorem d_L_law_558 : decode code 558 = .ok (.iadd, 1) := by decide +kernel
theorem d_L_law_559 : decode code 559 = .ok (.iaload, 1) := by decide +kernel
theorem d_L_law_560 : decode code 560 = .ok (.ifCond .eq 7, 3) := by decide +kernel
theorem d_L_law_563 : decode code 563 = .ok (.iconst 1, 1) := by decide +kernel
theorem d_L_law_564 : decode code 564 = .ok (.goto 4, 3) := by decide +kernel
theorem d_L_law_567 : decode code 567 = .ok (.iconst 0, 1) := by decide +kernel
theorem d_L_law_568 : decode code 568 = .ok (.invokevirtual 53, 3) := by decide +kernel
theorem d_L_law_571 : decode code 571 = .ok (.aload_n 2, 1) := by decide +kernel
theorem d_L_law_572 : decode code 572 = .ok (.aload_n 0, 1) := by decide +kernel
theorem d_L_law_573 : decode code 573 = .ok (.iload_n 3, 1) := by decide +kernel
theorem d_L_law_574 : decode code 574 = .ok (.iconst 1, 1) := by decide +kernel
theorem d_L_law_575 : decode code 575 = .ok (.iadd, 1) := by decide +kernel
theorem d_L_law_576 : decode code 576 = .ok (.iaload, 1) := by decide +kernel
theorem d_L_law_577 : decode code 577 = .ok (.aload_n 0, 1) := by decide +kernel
theorem d_L_law_578 : decode code 578 = .ok (.iload_n 3, 1) := by decide +kernel
theorem d_L_law_579 : decode code 579 = .ok (.iconst 2, 1) := by decide +kernel
theorem d_L_law_580 : decode code 580 = .ok (.iadd, 1) := by decide +kernel
theorem d_L_law_581 : decode code 581 = .ok (.iaload, 1) := by decide +kernel
theorem d_L_law_582 : decode code 582 = .ok (.i2l, 1) := by decide +kernel
theorem d_L_law_583 : decode code 583 = .ok (.bipush 32, 2) := by decide +kernel
theorem d_L_law_585 : decode code 585 = .ok (.lshl, 1) := by decide +kernel
theorem d_L_law_586 : decode code 586 = .ok (.aload_n 0, 1) := by decide +kernel
theorem d_L_law_587 : decode code 587 = .ok (.iload_n 3, 1) := by decide +kernel
theorem d_L_law_588 : decode code 588 = .ok (.iconst 3, 1) := by decide +kernel
theorem d_L_law_589 : decode code 589 = .ok (.iadd, 1) := by decide +kernel
theorem d_L_law_590 : decode code 590 = .ok (.iaload, 1) := by decide +kernel
theorem d_L_law_591 : decode code 591 = .ok (.i2l, 1) := by decide +kernel
theorem d_L_law_592 : decode code 592 = .ok (.ldc2_w 18, 3) := by decide +kernel
theorem d_L_law_595 : decode code 595 = .ok (.land, 1) := by decide +kernel
theorem d_L_law_596 : decode code 596 = .ok (.lor, 1) := by decide +kernel
theorem d_L_law_597 : decode code 597 = .ok (.aload_n 0, 1) := by decide +kernel
theorem d_L_law_598 : decode code 598 = .ok (.iload_n 3, 1) := by decide +kernel
theorem d_L_law_599 : decode code 599 = .ok (.iconst 4, 1) := by decide +kernel
theorem d_L_law_600 : decode code 600 = .ok (.iadd, 1) := by decide +kernel
theorem d_L_law_601 : decode code 601 = .ok (.iaload, 1) := by decide +kernel
theorem d_L_law_602 : decode code 602 = .ok (.ifCond .eq 7, 3) := by decide +kernel
theorem d_L_law_605 : decode code 605 = .ok (.iconst 1, 1) := by decide +kernel
theorem d_L_law_606 : decode code 606 = .ok (.goto 4, 3) := by decide +kernel
theorem d_L_law_609 : decode code 609 = .ok (.iconst 0, 1) := by decide +kernel
theorem d_L_law_610 : decode code 610 = .ok (.invokevirtual 56, 3) := by decide +kernel
theorem d_L_law_613 : decode code 613 = .ok (.if_icmp .eq 357, 3) := by decide +kernel
theorem d_L_law_616 : decode code 616 = .ok (.iconst 0, 1) := by decide +kernel
theorem d_L_law_617 : decode code 617 = .ok (.ireturn, 1) := by decide +kernel
theorem d_L_law_618 : decode code 618 = .ok (.aload_n 1, 1) := by decide +kernel
theorem d_L_law_619 : decode code 619 = .ok (.aload_n 0, 1) := by decide +kernel
theorem d_L_law_620 : decode code 620 = .ok (.iload_n 3, 1) := by decide +kernel
theorem d_L_law_621 : decode code 621 = .ok (.iconst 1, 1) := by decide +kernel
theorem d_L_law_622 : decode code 622 = .ok (.iadd, 1) := by decide +kernel
theorem d_L_law_623 : decode code 623 = .ok (.iaload, 1) := by decide +kernel
theorem d_L_law_624 : decode code 624 = .ok (.aload_n 0, 1) := by decide +kernel
theorem d_L_law_625 : decode code 625 = .ok (.iload_n 3, 1) := by decide +kernel
theorem d_L_law_626 : decode code 626 = .ok (.iconst 2, 1) := by decide +kernel
theorem d_L_law_627 : decode code 627 = .ok (.iadd, 1) := by decide +kernel
theorem d_L_law_628 : decode code 628 = .ok (.iaload, 1) := by decide +kernel
theorem d_L_law_629 : decode code 629 = .ok (.aload_n 0, 1) := by decide +kernel
theorem d_L_law_630 : decode code 630 = .ok (.iload_n 3, 1) := by decide +kernel
theorem d_L_law_631 : decode code 631 = .ok (.iconst 3, 1) := by decide +kernel
theorem d_L_law_632 : decode code 632 = .ok (.iadd, 1) := by decide +kernel
theorem d_L_law_633 : decode code 633 = .ok (.iaload, 1) := by decide +kernel
theorem d_L_law_634 : decode code 634 = .ok (.invokevirtual 57, 3) := by decide +kernel
theorem d_L_law_637 : decode code 637 = .ok (.aload_n 2, 1) := by decide +kernel
theorem d_L_law_638 : decode code 638 = .ok (.aload_n 0, 1) := by decide +kernel
theorem d_L_law_639 : decode code 639 = .ok (.iload_n 3, 1) := by decide +kernel
theorem d_L_law_640 : decode code 640 = .ok (.iconst 1, 1) := by decide +kernel
theorem d_L_law_641 : decode code 641 = .ok (.iadd, 1) := by decide +kernel
theorem d_L_law_642 : decode code 642 = .ok (.iaload, 1) := by decide +kernel
theorem d_L_law_643 : decode code 643 = .ok (.aload_n 0, 1) := by decide +kernel
theorem d_L_law_644 : decode code 644 = .ok (.iload_n 3, 1) := by decide +kernel
theorem d_L_law_645 : decode code 645 = .ok (.iconst 2, 1) := by decide +kernel
theorem d_L_law_646 : decode code 646 = .ok (.iadd, 1) := by decide +kernel
theorem d_L_law_647 : decode code 647 = .ok (.iaload, 1) := by decide +kernel
theorem d_L_law_648 : decode code 648 = .ok (.aload_n 0, 1) := by decide +kernel
theorem d_L_law_649 : decode code 649 = .ok (.iload_n 3, 1) := by decide +kernel
theorem d_L_law_650 : decode code 650 = .ok (.iconst 3, 1) := by decide +kernel
theorem d_L_law_651 : decode code 651 = .ok (.iadd, 1) := by decide +kernel
theorem d_L_law_652 : decode code 652 = .ok (.iaload, 1) := by decide +kernel
theorem d_L_law_653 : decode code 653 = .ok (.invokevirtual 61, 3) := by decide +kernel
theorem d_L_law_656 : decode code 656 = .ok (.if_icmp .eq 314, 3) := by decide +kernel
theorem d_L_law_659 : decode code 659 = .ok (.iconst 0, 1) := by decide +kernel
theorem d_L_law_660 : decode code 660 = .ok (.ireturn, 1) := by decide +kernel
theorem d_L_law_661 : decode code 661 = .ok (.aload_n 1, 1) := by decide +kernel
theorem d_L_law_662 : decode code 662 = .ok (.invokevirtual 62, 3) := by decide +kernel
theorem d_L_law_665 : decode code 665 = .ok (.aload_n 2, 1) := by decide +kernel
theorem d_L_law_666 : decode code 666 = .ok (.invokevirtual 66, 3) := by decide +kernel
theorem d_L_law_669 : decode code 669 = .ok (.if_icmp .eq 301, 3) := by decide +kernel
theorem d_L_law_672 : decode code 672 = .ok (.iconst 0, 1) := by decide +kernel
theorem d_L_law_673 : decode code 673 = .ok (.ireturn, 1) := by decide +kernel
theorem d_L_law_674 : decode code 674 = .ok (.aload_n 1, 1) := by decide +kernel
theorem d_L_law_675 : decode code 675 = .ok (.aload_n 0, 1) := by decide +kernel
theorem d_L_law_676 : decode code 676 = .ok (.iload_n 3, 1) := by decide +kernel
theorem d_L_law_677 : decode code 677 = .ok (.iconst 1, 1) := by decide +kernel
theorem d_L_law_678 : decode code 678 = .ok (.iadd, 1) := by decide +kernel
theorem d_L_law_679 : decode code 679 = .ok (.iaload, 1) := by decide +kernel
theorem d_L_law_680 : decode code 680 = .ok (.invokevirtual 67, 3) := by decide +kernel
theorem d_L_law_683 : decode code 683 = .ok (.aload_n 2, 1) := by decide +kernel
theorem d_L_law_684 : decode code 684 = .ok (.aload_n 0, 1) := by decide +kernel
theorem d_L_law_685 : decode code 685 = .ok (.iload_n 3, 1) := by decide +kernel
theorem d_L_law_686 : decode code 686 = .ok (.iconst 1, 1) := by decide +kernel
theorem d_L_law_687 : decode code 687 = .ok (.iadd, 1) := by decide +kernel
theorem d_L_law_688 : decode code 688 = .ok (.iaload, 1) := by decide +kernel
theorem d_L_law_689 : decode code 689 = .ok (.invokevirtual 70, 3) := by decide +kernel
theorem d_L_law_692 : decode code 692 = .ok (.if_icmp .eq 278, 3) := by decide +kernel
theorem d_L_law_695 : decode code 695 = .ok (.iconst 0, 1) := by decide +kernel
theorem d_L_law_696 : decode code 696 = .ok (.ireturn, 1) := by decide +kernel
theorem d_L_law_697 : decode code 697 = .ok (.aload_n 1, 1) := by decide +kernel
theorem d_L_law_698 : decode code 698 = .ok (.aload_n 0, 1) := by decide +kernel
theorem d_L_law_699 : decode code 699 = .ok (.iload_n 3, 1) := by decide +kernel
theorem d_L_law_700 : decode code 700 = .ok (.iconst 1, 1) := by decide +kernel
theorem d_L_law_701 : decode code 701 = .ok (.iadd, 1) := by decide +kernel
theorem d_L_law_702 : decode code 702 = .ok (.iaload, 1) := by decide +kernel
theorem d_L_law_703 : decode code 703 = .ok (.aload_n 0, 1) := by decide +kernel
theorem d_L_law_704 : decode code 704 = .ok (.iload_n 3, 1) := by decide +kernel
theorem d_L_law_705 : decode code 705 = .ok (.iconst 2, 1) := by decide +kernel
theorem d_L_law_706 : decode code 706 = .ok (.iadd, 1) := by decide +kernel
theorem d_L_law_707 : decode code 707 = .ok (.iaload, 1) := by decide +kernel
theorem d_L_law_708 : decode code 708 = .ok (.aload_n 0, 1) := by decide +kernel
theorem d_L_law_709 : decode code 709 = .ok (.iload_n 3, 1) := by decide +kernel
theorem d_L_law_710 : decode code 710 = .ok (.iconst 3, 1) := by decide +kernel
theorem d_L_law_711 : decode code 711 = .ok (.iadd, 1) := by decide +kernel
theorem d_L_law_712 : decode code 712 = .ok (.iaload, 1) := by decide +kernel
theorem d_L_law_713 : decode code 713 = .ok (.invokevirtual 71, 3) := by decide +kernel
theorem d_L_law_716 : decode code 716 = .ok (.aload_n 2, 1) := by decide +kernel
theorem d_L_law_717 : decode code 717 = .ok (.aload_n 0, 1) := by decide +kernel
theorem d_L_law_718 : decode code 718 = .ok (.iload_n 3, 1) := by decide +kernel
theorem d_L_law_719 : decode code 719 = .ok (.iconst 1, 1) := by decide +kernel
theorem d_L_law_720 : decode code 720 = .ok (.iadd, 1) := by decide +kernel
theorem d_L_law_721 : decode code 721 = .ok (.iaload, 1) := by decide +kernel
theorem d_L_law_722 : decode code 722 = .ok (.aload_n 0, 1) := by decide +kernel
theorem d_L_law_723 : decode code 723 = .ok (.iload_n 3, 1) := by decide +kernel
theorem d_L_law_724 : decode code 724 = .ok (.iconst 2, 1) := by decide +kernel
theorem d_L_law_725 : decode code 725 = .ok (.iadd, 1) := by decide +kernel
theorem d_L_law_726 : decode code 726 = .ok (.iaload, 1) := by decide +kernel
theorem d_L_law_727 : decode code 727 = .ok (.aload_n 0, 1) := by decide +kernel
theorem d_L_law_728 : decode code 728 = .ok (.iload_n 3, 1) := by decide +kernel
theorem d_L_law_729 : decode code 729 = .ok (.iconst 3, 1) := by decide +kernel
theorem d_L_law_730 : decode code 730 = .ok (.iadd, 1) := by decide +kernel
theorem d_L_law_731 : decode code 731 = .ok (.iaload, 1) := by decide +kernel
theorem d_L_law_732 : decode code 732 = .ok (.invokevirtual 74, 3) := by decide +kernel
theorem d_L_law_735 : decode code 735 = .ok (.if_icmp .eq 235, 3) := by decide +kernel
theorem d_L_law_738 : decode code 738 = .ok (.iconst 0, 1) := by decide +kernel
theorem d_L_law_739 : decode code 739 = .ok (.ireturn, 1) := by decide +kernel
theorem d_L_law_740 : decode code 740 = .ok (.aload_n 1, 1) := by decide +kernel
theorem d_L_law_741 : decode code 741 = .ok (.aload_n 0, 1) := by decide +kernel
theorem d_L_law_742 : decode code 742 = .ok (.iload_n 3, 1) := by decide +kernel
theorem d_L_law_743 : decode code 743 = .ok (.iconst 1, 1) := by decide +kernel
theorem d_L_law_744 : decode code 744 = .ok (.iadd, 1) := by decide +kernel
theorem d_L_law_745 : decode code 745 = .ok (.iaload, 1) := by decide +kernel
theorem d_L_law_746 : decode code 746 = .ok (.aload_n 0, 1) := by decide +kernel
theorem d_L_law_747 : decode code 747 = .ok (.iload_n 3, 1) := by decide +kernel
theorem d_L_law_748 : decode code 748 = .ok (.iconst 2, 1) := by decide +kernel
theorem d_L_law_749 : decode code 749 = .ok (.iadd, 1) := by decide +kernel
theorem d_L_law_750 : decode code 750 = .ok (.iaload, 1) := by decide +kernel
theorem d_L_law_751 : decode code 751 = .ok (.invokevirtual 75, 3) := by decide +kernel
theorem d_L_law_754 : decode code 754 = .ok (.aload_n 2, 1) := by decide +kernel
theorem d_L_law_755 : decode code 755 = .ok (.aload_n 0, 1) := by decide +kernel
theorem d_L_law_756 : decode code 756 = .ok (.iload_n 3, 1) := by decide +kernel
theorem d_L_law_757 : decode code 757 = .ok (.iconst 1, 1) := by decide +kernel
theorem d_L_law_758 : decode code 758 = .ok (.iadd, 1) := by decide +kernel
theorem d_L_law_759 : decode code 759 = .ok (.iaload, 1) := by decide +kernel
theorem d_L_law_760 : decode code 760 = .ok (.aload_n 0, 1) := by decide +kernel
theorem d_L_law_761 : decode code 761 = .ok (.iload_n 3, 1) := by decide +kernel
theorem d_L_law_762 : decode code 762 = .ok (.iconst 2, 1) := by decide +kernel
theorem d_L_law_763 : decode code 763 = .ok (.iadd, 1) := by decide +kernel
theorem d_L_law_764 : decode code 764 = .ok (.iaload, 1) := by decide +kernel
theorem d_L_law_765 : decode code 765 = .ok (.invokevirtual 79, 3) := by decide +kernel
theorem d_L_law_768 : decode code 768 = .ok (.lcmp, 1) := by decide +kernel
theorem d_L_law_769 : decode code 769 = .ok (.ifCond .eq 201, 3) := by decide +kernel
theorem d_L_law_772 : decode code 772 = .ok (.iconst 0, 1) := by decide +kernel
theorem d_L_law_773 : decode code 773 = .ok (.ireturn, 1) := by decide +kernel
theorem d_L_law_774 : decode code 774 = .ok (.aload_n 1, 1) := by decide +kernel
theorem d_L_law_775 : decode code 775 = .ok (.aload_n 0, 1) := by decide +kernel
theorem d_L_law_776 : decode code 776 = .ok (.iload_n 3, 1) := by decide +kernel
theorem d_L_law_777 : decode code 777 = .ok (.iconst 1, 1) := by decide +kernel
theorem d_L_law_778 : decode code 778 = .ok (.iadd, 1) := by decide +kernel
theorem d_L_law_779 : decode code 779 = .ok (.iaload, 1) := by decide +kernel
theorem d_L_law_780 : decode code 780 = .ok (.invokevirtual 80, 3) := by decide +kernel
theorem d_L_law_783 : decode code 783 = .ok (.aload_n 2, 1) := by decide +kernel
theorem d_L_law_784 : decode code 784 = .ok (.aload_n 0, 1) := by decide +kernel
theorem d_L_law_785 : decode code 785 = .ok (.iload_n 3, 1) := by decide +kernel
theorem d_L_law_786 : decode code 786 = .ok (.iconst 1, 1) := by decide +kernel
theorem d_L_law_787 : decode code 787 = .ok (.iadd, 1) := by decide +kernel
theorem d_L_law_788 : decode code 788 = .ok (.iaload, 1) := by decide +kernel
theorem d_L_law_789 : decode code 789 = .ok (.invokevirtual 84, 3) := by decide +kernel
theorem d_L_law_792 : decode code 792 = .ok (.if_icmp .eq 178, 3) := by decide +kernel
theorem d_L_law_795 : decode code 795 = .ok (.iconst 0, 1) := by decide +kernel
theorem d_L_law_796 : decode code 796 = .ok (.ireturn, 1) := by decide +kernel
theorem d_L_law_797 : decode code 797 = .ok (.aload_n 1, 1) := by decide +kernel
theorem d_L_law_798 : decode code 798 = .ok (.invokevirtual 85, 3) := by decide +kernel
theorem d_L_law_801 : decode code 801 = .ok (.aload_n 2, 1) := by decide +kernel
theorem d_L_law_802 : decode code 802 = .ok (.invokevirtual 88, 3) := by decide +kernel
theorem d_L_law_805 : decode code 805 = .ok (.goto 165, 3) := by decide +kernel
theorem d_L_law_808 : decode code 808 = .ok (.aload_n 1, 1) := by decide +kernel
theorem d_L_law_809 : decode code 809 = .ok (.aload_n 0, 1) := by decide +kernel
theorem d_L_law_810 : decode code 810 = .ok (.iload_n 3, 1) := by decide +kernel
theorem d_L_law_811 : decode code 811 = .ok (.iconst 1, 1) := by decide +kernel
theorem d_L_law_812 : decode code 812 = .ok (.iadd, 1) := by decide +kernel
theorem d_L_law_813 : decode code 813 = .ok (.iaload, 1) := by decide +kernel
theorem d_L_law_814 : decode code 814 = .ok (.invokevirtual 89, 3) := by decide +kernel
theorem d_L_law_817 : decode code 817 = .ok (.aload_n 2, 1) := by decide +kernel
theorem d_L_law_818 : decode code 818 = .ok (.aload_n 0, 1) := by decide +kernel
theorem d_L_law_819 : decode code 819 = .ok (.iload_n 3, 1) := by decide +kernel
theorem d_L_law_820 : decode code 820 = .ok (.iconst 1, 1) := by decide +kernel
theorem d_L_law_821 : decode code 821 = .ok (.iadd, 1) := by decide +kernel
theorem d_L_law_822 : decode code 822 = .ok (.iaload, 1) := by decide +kernel
theorem d_L_law_823 : decode code 823 = .ok (.invokevirtual 92, 3) := by decide +kernel
theorem d_L_law_826 : decode code 826 = .ok (.if_icmp .eq 144, 3) := by decide +kernel
theorem d_L_law_829 : decode code 829 = .ok (.iconst 0, 1) := by decide +kernel
theorem d_L_law_830 : decode code 830 = .ok (.ireturn, 1) := by decide +kernel
theorem d_L_law_831 : decode code 831 = .ok (.aload_n 1, 1) := by decide +kernel
theorem d_L_law_832 : decode code 832 = .ok (.aload_n 0, 1) := by decide +kernel
theorem d_L_law_833 : decode code 833 = .ok (.iload_n 3, 1) := by decide +kernel
theorem d_L_law_834 : decode code 834 = .ok (.iconst 1, 1) := by decide +kernel
theorem d_L_law_835 : decode code 835 = .ok (.iadd, 1) := by decide +kernel
theorem d_L_law_836 : decode code 836 = .ok (.iaload, 1) := by decide +kernel
theorem d_L_law_837 : decode code 837 = .ok (.invokevirtual 93, 3) := by decide +kernel
theorem d_L_law_840 : decode code 840 = .ok (.aload_n 2, 1) := by decide +kernel
theorem d_L_law_841 : decode code 841 = .ok (.aload_n 0, 1) := by decide +kernel
theorem d_L_law_842 : decode code 842 = .ok (.iload_n 3, 1) := by decide +kernel
theorem d_L_law_843 : decode code 843 = .ok (.iconst 1, 1) := by decide +kernel
theorem d_L_law_844 : decode code 844 = .ok (.iadd, 1) := by decide +kernel
theorem d_L_law_845 : decode code 845 = .ok (.iaload, 1) := by decide +kernel
theorem d_L_law_846 : decode code 846 = .ok (.invokevirtual 96, 3) := by decide +kernel
theorem d_L_law_849 : decode code 849 = .ok (.if_icmp .eq 121, 3) := by decide +kernel
theorem d_L_law_852 : decode code 852 = .ok (.iconst 0, 1) := by decide +kernel
theorem d_L_law_853 : decode code 853 = .ok (.ireturn, 1) := by decide +kernel
theorem d_L_law_854 : decode code 854 = .ok (.aload_n 1, 1) := by decide +kernel
theorem d_L_law_855 : decode code 855 = .ok (.invokevirtual 97, 3) := by decide +kernel
theorem d_L_law_858 : decode code 858 = .ok (.aload_n 2, 1) := by decide +kernel
theorem d_L_law_859 : decode code 859 = .ok (.invokevirtual 100, 3) := by decide +kernel
theorem d_L_law_862 : decode code 862 = .ok (.if_icmp .eq 108, 3) := by decide +kernel
theorem d_L_law_865 : decode code 865 = .ok (.iconst 0, 1) := by decide +kernel
theorem d_L_law_866 : decode code 866 = .ok (.ireturn, 1) := by decide +kernel
theorem d_L_law_867 : decode code 867 = .ok (.aload_n 1, 1) := by decide +kernel
theorem d_L_law_868 : decode code 868 = .ok (.aload_n 0, 1) := by decide +kernel
theorem d_L_law_869 : decode code 869 = .ok (.iload_n 3, 1) := by decide +kernel
theorem d_L_law_870 : decode code 870 = .ok (.iconst 1, 1) := by decide +kernel
theorem d_L_law_871 : decode code 871 = .ok (.iadd, 1) := by decide +kernel
theorem d_L_law_872 : decode code 872 = .ok (.iaload, 1) := by decide +kernel
theorem d_L_law_873 : decode code 873 = .ok (.aload_n 0, 1) := by decide +kernel
theorem d_L_law_874 : decode code 874 = .ok (.iload_n 3, 1) := by decide +kernel
theorem d_L_law_875 : decode code 875 = .ok (.iconst 2, 1) := by decide +kernel
theorem d_L_law_876 : decode code 876 = .ok (.iadd, 1) := by decide +kernel
theorem d_L_law_877 : decode code 877 = .ok (.iaload, 1) := by decide +kernel
theorem d_L_law_878 : decode code 878 = .ok (.invokevirtual 101, 3) := by decide +kernel
theorem d_L_law_881 : decode code 881 = .ok (.aload_n 2, 1) := by decide +kernel
theorem d_L_law_882 : decode code 882 = .ok (.aload_n 0, 1) := by decide +kernel
theorem d_L_law_883 : decode code 883 = .ok (.iload_n 3, 1) := by decide +kernel
theorem d_L_law_884 : decode code 884 = .ok (.iconst 1, 1) := by decide +kernel
theorem d_L_law_885 : decode code 885 = .ok (.iadd, 1) := by decide +kernel
theorem d_L_law_886 : decode code 886 = .ok (.iaload, 1) := by decide +kernel
theorem d_L_law_887 : decode code 887 = .ok (.aload_n 0, 1) := by decide +kernel
theorem d_L_law_888 : decode code 888 = .ok (.iload_n 3, 1) := by decide +kernel
theorem d_L_law_889 : decode code 889 = .ok (.iconst 2, 1) := by decide +kernel
theorem d_L_law_890 : decode code 890 = .ok (.iadd, 1) := by decide +kernel
theorem d_L_law_891 : decode code 891 = .ok (.iaload, 1) := by decide +kernel
theorem d_L_law_892 : decode code 892 = .ok (.invokevirtual 104, 3) := by decide +kernel
theorem d_L_law_895 : decode code 895 = .ok (.if_icmp .eq 75, 3) := by decide +kernel
theorem d_L_law_898 : decode code 898 = .ok (.iconst 0, 1) := by decide +kernel
theorem d_L_law_899 : decode code 899 = .ok (.ireturn, 1) := by decide +kernel
theorem d_L_law_900 : decode code 900 = .ok (.aload_n 1, 1) := by decide +kernel
theorem d_L_law_901 : decode code 901 = .ok (.aload_n 0, 1) := by decide +kernel
theorem d_L_law_902 : decode code 902 = .ok (.iload_n 3, 1) := by decide +kernel
theorem d_L_law_903 : decode code 903 = .ok (.iconst 1, 1) := by decide +kernel
theorem d_L_law_904 : decode code 904 = .ok (.iadd, 1) := by decide +kernel
theorem d_L_law_905 : decode code 905 = .ok (.iaload, 1) := by decide +kernel
theorem d_L_law_906 : decode code 906 = .ok (.invokevirtual 105, 3) := by decide +kernel
theorem d_L_law_909 : decode code 909 = .ok (.aload_n 2, 1) := by decide +kernel
theorem d_L_law_910 : decode code 910 = .ok (.aload_n 0, 1) := by decide +kernel
theorem d_L_law_911 : decode code 911 = .ok (.iload_n 3, 1) := by decide +kernel
theorem d_L_law_912 : decode code 912 = .ok (.iconst 1, 1) := by decide +kernel
theorem d_L_law_913 : decode code 913 = .ok (.iadd, 1) := by decide +kernel
theorem d_L_law_914 : decode code 914 = .ok (.iaload, 1) := by decide +kernel
theorem d_L_law_915 : decode code 915 = .ok (.invokevirtual 108, 3) := by decide +kernel
theorem d_L_law_918 : decode code 918 = .ok (.lcmp, 1) := by decide +kernel
theorem d_L_law_919 : decode code 919 = .ok (.ifCond .eq 51, 3) := by decide +kernel
theorem d_L_law_922 : decode code 922 = .ok (.iconst 0, 1) := by decide +kernel
theorem d_L_law_923 : decode code 923 = .ok (.ireturn, 1) := by decide +kernel
theorem d_L_law_924 : decode code 924 = .ok (.aload_n 1, 1) := by decide +kernel
theorem d_L_law_925 : decode code 925 = .ok (.aload_n 0, 1) := by decide +kernel
theorem d_L_law_926 : decode code 926 = .ok (.iload_n 3, 1) := by decide +kernel
theorem d_L_law_927 : decode code 927 = .ok (.iconst 1, 1) := by decide +kernel
theorem d_L_law_928 : decode code 928 = .ok (.iadd, 1) := by decide +kernel
theorem d_L_law_929 : decode code 929 = .ok (.iaload, 1) := by decide +kernel
theorem d_L_law_930 : decode code 930 = .ok (.invokevirtual 109, 3) := by decide +kernel
theorem d_L_law_933 : decode code 933 = .ok (.aload_n 2, 1) := by decide +kernel
theorem d_L_law_934 : decode code 934 = .ok (.aload_n 0, 1) := by decide +kernel
theorem d_L_law_935 : decode code 935 = .ok (.iload_n 3, 1) := by decide +kernel
theorem d_L_law_936 : decode code 936 = .ok (.iconst 1, 1) := by decide +kernel
theorem d_L_law_937 : decode code 937 = .ok (.iadd, 1) := by decide +kernel
theorem d_L_law_938 : decode code 938 = .ok (.iaload, 1) := by decide +kernel
theorem d_L_law_939 : decode code 939 = .ok (.invokevirtual 112, 3) := by decide +kernel
theorem d_L_law_942 : decode code 942 = .ok (.if_icmp .eq 28, 3) := by decide +kernel
theorem d_L_law_945 : decode code 945 = .ok (.iconst 0, 1) := by decide +kernel
theorem d_L_law_946 : decode code 946 = .ok (.ireturn, 1) := by decide +kernel
theorem d_L_law_947 : decode code 947 = .ok (.aload_n 1, 1) := by decide +kernel
theorem d_L_law_948 : decode code 948 = .ok (.aload_n 0, 1) := by decide +kernel
theorem d_L_law_949 : decode code 949 = .ok (.iload_n 3, 1) := by decide +kernel
theorem d_L_law_950 : decode code 950 = .ok (.iconst 1, 1) := by decide +kernel
theorem d_L_law_951 : decode code 951 = .ok (.iadd, 1) := by decide +kernel
theorem d_L_law_952 : decode code 952 = .ok (.iaload, 1) := by decide +kernel
theorem d_L_law_953 : decode code 953 = .ok (.invokevirtual 113, 3) := by decide +kernel
theorem d_L_law_956 : decode code 956 = .ok (.aload_n 2, 1) := by decide +kernel
theorem d_L_law_957 : decode code 957 = .ok (.aload_n 0, 1) := by decide +kernel
theorem d_L_law_958 : decode code 958 = .ok (.iload_n 3, 1) := by decide +kernel
theorem d_L_law_959 : decode code 959 = .ok (.iconst 1, 1) := by decide +kernel
theorem d_L_law_960 : decode code 960 = .ok (.iadd, 1) := by decide +kernel
theorem d_L_law_961 : decode code 961 = .ok (.iaload, 1) := by decide +kernel
theorem d_L_law_962 : decode code 962 = .ok (.invokevirtual 116, 3) := by decide +kernel
theorem d_L_law_965 : decode code 965 = .ok (.if_icmp .eq 5, 3) := by decide +kernel
theorem d_L_law_968 : decode code 968 = .ok (.iconst 0, 1) := by decide +kernel
theorem d_L_law_969 : decode code 969 = .ok (.ireturn, 1) := by decide +kernel
theorem d_L_law_970 : decode code 970 = .ok (.iinc 3 7, 3) := by decide +kernel
theorem d_L_law_973 : decode code 973 = .ok (.goto (-955), 3) := by decide +kernel
theorem d_L_law_976 : decode code 976 = .ok (.iconst 1, 1) := by decide +kernel
theorem d_L_law_977 : decode code 977 = .ok (.ireturn, 1) := by decide +kernel
