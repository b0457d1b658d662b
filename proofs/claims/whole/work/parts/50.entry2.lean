theorem d_LW_law_543 : decode code 543 = .ok (.iload 5, 2) := by decide +kernel
theorem d_LW_law_545 : decode code 545 = .ok (.ifCond .ne 14, 3) := by decide +kernel
theorem d_LW_law_548 : decode code 548 = .ok (.aload_n 3, 1) := by decide +kernel
theorem d_LW_law_549 : decode code 549 = .ok (.iconst 0, 1) := by decide +kernel
theorem d_LW_law_550 : decode code 550 = .ok (.laload, 1) := by decide +kernel
theorem d_LW_law_551 : decode code 551 = .ok (.lload 6, 2) := by decide +kernel
theorem d_LW_law_553 : decode code 553 = .ok (.lcmp, 1) := by decide +kernel
theorem d_LW_law_554 : decode code 554 = .ok (.ifCond .eq 5, 3) := by decide +kernel
theorem d_LW_law_557 : decode code 557 = .ok (.iconst 0, 1) := by decide +kernel
theorem d_LW_law_558 : decode code 558 = .ok (.ireturn, 1) := by decide +kernel
theorem d_LW_law_559 : decode code 559 = .ok (.goto 854, 3) := by decide +kernel
theorem d_LW_law_562 : decode code 562 = .ok (.aload_n 1, 1) := by decide +kernel
theorem d_LW_law_563 : decode code 563 = .ok (.aload_n 0, 1) := by decide +kernel
theorem d_LW_law_564 : decode code 564 = .ok (.iload 4, 2) := by decide +kernel
theorem d_LW_law_566 : decode code 566 = .ok (.iconst 1, 1) := by decide +kernel
theorem d_LW_law_567 : decode code 567 = .ok (.iadd, 1) := by decide +kernel
theorem d_LW_law_568 : decode code 568 = .ok (.iaload, 1) := by decide +kernel
theorem d_LW_law_569 : decode code 569 = .ok (.aload_n 0, 1) := by decide +kernel
theorem d_LW_law_570 : decode code 570 = .ok (.iload 4, 2) := by decide +kernel
theorem d_LW_law_572 : decode code 572 = .ok (.iconst 2, 1) := by decide +kernel
theorem d_LW_law_573 : decode code 573 = .ok (.iadd, 1) := by decide +kernel
theorem d_LW_law_574 : decode code 574 = .ok (.iaload, 1) := by decide +kernel
theorem d_LW_law_575 : decode code 575 = .ok (.aload_n 3, 1) := by decide +kernel
theorem d_LW_law_576 : decode code 576 = .ok (.invokestatic 112, 3) := by decide +kernel
theorem d_LW_law_579 : decode code 579 = .ok (.istore 5, 2) := by decide +kernel
theorem d_LW_law_581 : decode code 581 = .ok (.aload_n 2, 1) := by decide +kernel
theorem d_LW_law_582 : decode code 582 = .ok (.aload_n 0, 1) := by decide +kernel
theorem d_LW_law_583 : decode code 583 = .ok (.iload 4, 2) := by decide +kernel
theorem d_LW_law_585 : decode code 585 = .ok (.iconst 1, 1) := by decide +kernel
theorem d_LW_law_586 : decode code 586 = .ok (.iadd, 1) := by decide +kernel
theorem d_LW_law_587 : decode code 587 = .ok (.iaload, 1) := by decide +kernel
theorem d_LW_law_588 : decode code 588 = .ok (.aload_n 0, 1) := by decide +kernel
theorem d_LW_law_589 : decode code 589 = .ok (.iload 4, 2) := by decide +kernel
theorem d_LW_law_591 : decode code 591 = .ok (.iconst 2, 1) := by decide +kernel
theorem d_LW_law_592 : decode code 592 = .ok (.iadd, 1) := by decide +kernel
theorem d_LW_law_593 : decode code 593 = .ok (.iaload, 1) := by decide +kernel
theorem d_LW_law_594 : decode code 594 = .ok (.invokevirtual 114, 3) := by decide +kernel
theorem d_LW_law_597 : decode code 597 = .ok (.istore 6, 2) := by decide +kernel
theorem d_LW_law_599 : decode code 599 = .ok (.aload_n 2, 1) := by decide +kernel
theorem d_LW_law_600 : decode code 600 = .ok (.invokevirtual 88, 3) := by decide +kernel
theorem d_LW_law_603 : decode code 603 = .ok (.iload 5, 2) := by decide +kernel
theorem d_LW_law_605 : decode code 605 = .ok (.if_icmp .eq 5, 3) := by decide +kernel
theorem d_LW_law_608 : decode code 608 = .ok (.iconst 0, 1) := by decide +kernel
theorem d_LW_law_609 : decode code 609 = .ok (.ireturn, 1) := by decide +kernel
theorem d_LW_law_610 : decode code 610 = .ok (.iload 5, 2) := by decide +kernel
theorem d_LW_law_612 : decode code 612 = .ok (.ifCond .ne 15, 3) := by decide +kernel
theorem d_LW_law_615 : decode code 615 = .ok (.aload_n 3, 1) := by decide +kernel
theorem d_LW_law_616 : decode code 616 = .ok (.iconst 0, 1) := by decide +kernel
theorem d_LW_law_617 : decode code 617 = .ok (.laload, 1) := by decide +kernel
theorem d_LW_law_618 : decode code 618 = .ok (.iload 6, 2) := by decide +kernel
theorem d_LW_law_620 : decode code 620 = .ok (.i2l, 1) := by decide +kernel
theorem d_LW_law_621 : decode code 621 = .ok (.lcmp, 1) := by decide +kernel
theorem d_LW_law_622 : decode code 622 = .ok (.ifCond .eq 5, 3) := by decide +kernel
theorem d_LW_law_625 : decode code 625 = .ok (.iconst 0, 1) := by decide +kernel
theorem d_LW_law_626 : decode code 626 = .ok (.ireturn, 1) := by decide +kernel
theorem d_LW_law_627 : decode code 627 = .ok (.goto 786, 3) := by decide +kernel
theorem d_LW_law_630 : decode code 630 = .ok (.aload_n 1, 1) := by decide +kernel
theorem d_LW_law_631 : decode code 631 = .ok (.aload_n 0, 1) := by decide +kernel
theorem d_LW_law_632 : decode code 632 = .ok (.iload 4, 2) := by decide +kernel
theorem d_LW_law_634 : decode code 634 = .ok (.iconst 1, 1) := by decide +kernel
theorem d_LW_law_635 : decode code 635 = .ok (.iadd, 1) := by decide +kernel
theorem d_LW_law_636 : decode code 636 = .ok (.iaload, 1) := by decide +kernel
theorem d_LW_law_637 : decode code 637 = .ok (.aload_n 0, 1) := by decide +kernel
theorem d_LW_law_638 : decode code 638 = .ok (.iload 4, 2) := by decide +kernel
theorem d_LW_law_640 : decode code 640 = .ok (.iconst 2, 1) := by decide +kernel
theorem d_LW_law_641 : decode code 641 = .ok (.iadd, 1) := by decide +kernel
theorem d_LW_law_642 : decode code 642 = .ok (.iaload, 1) := by decide +kernel
theorem d_LW_law_643 : decode code 643 = .ok (.aload_n 0, 1) := by decide +kernel
theorem d_LW_law_644 : decode code 644 = .ok (.iload 4, 2) := by decide +kernel
theorem d_LW_law_646 : decode code 646 = .ok (.iconst 3, 1) := by decide +kernel
theorem d_LW_law_647 : decode code 647 = .ok (.iadd, 1) := by decide +kernel
theorem d_LW_law_648 : decode code 648 = .ok (.iaload, 1) := by decide +kernel
theorem d_LW_law_649 : decode code 649 = .ok (.aload_n 0, 1) := by decide +kernel
theorem d_LW_law_650 : decode code 650 = .ok (.iload 4, 2) := by decide +kernel
theorem d_LW_law_652 : decode code 652 = .ok (.iconst 4, 1) := by decide +kernel
theorem d_LW_law_653 : decode code 653 = .ok (.iadd, 1) := by decide +kernel
theorem d_LW_law_654 : decode code 654 = .ok (.iaload, 1) := by decide +kernel
theorem d_LW_law_655 : decode code 655 = .ok (.aload_n 3, 1) := by decide +kernel
theorem d_LW_law_656 : decode code 656 = .ok (.invokestatic 115, 3) := by decide +kernel
theorem d_LW_law_659 : decode code 659 = .ok (.istore 5, 2) := by decide +kernel
theorem d_LW_law_661 : decode code 661 = .ok (.aload_n 2, 1) := by decide +kernel
theorem d_LW_law_662 : decode code 662 = .ok (.aload_n 0, 1) := by decide +kernel
theorem d_LW_law_663 : decode code 663 = .ok (.iload 4, 2) := by decide +kernel
theorem d_LW_law_665 : decode code 665 = .ok (.iconst 1, 1) := by decide +kernel
theorem d_LW_law_666 : decode code 666 = .ok (.iadd, 1) := by decide +kernel
theorem d_LW_law_667 : decode code 667 = .ok (.iaload, 1) := by decide +kernel
theorem d_LW_law_668 : decode code 668 = .ok (.aload_n 0, 1) := by decide +kernel
theorem d_LW_law_669 : decode code 669 = .ok (.iload 4, 2) := by decide +kernel
theorem d_LW_law_671 : decode code 671 = .ok (.iconst 2, 1) := by decide +kernel
theorem d_LW_law_672 : decode code 672 = .ok (.iadd, 1) := by decide +kernel
theorem d_LW_law_673 : decode code 673 = .ok (.iaload, 1) := by decide +kernel
theorem d_LW_law_674 : decode code 674 = .ok (.aload_n 0, 1) := by decide +kernel
theorem d_LW_law_675 : decode code 675 = .ok (.iload 4, 2) := by decide +kernel
theorem d_LW_law_677 : decode code 677 = .ok (.iconst 3, 1) := by decide +kernel
theorem d_LW_law_678 : decode code 678 = .ok (.iadd, 1) := by decide +kernel
theorem d_LW_law_679 : decode code 679 = .ok (.iaload, 1) := by decide +kernel
theorem d_LW_law_680 : decode code 680 = .ok (.aload_n 0, 1) := by decide +kernel
theorem d_LW_law_681 : decode code 681 = .ok (.iload 4, 2) := by decide +kernel
theorem d_LW_law_683 : decode code 683 = .ok (.iconst 4, 1) := by decide +kernel
theorem d_LW_law_684 : decode code 684 = .ok (.iadd, 1) := by decide +kernel
theorem d_LW_law_685 : decode code 685 = .ok (.iaload, 1) := by decide +kernel
theorem d_LW_law_686 : decode code 686 = .ok (.invokevirtual 117, 3) := by decide +kernel
theorem d_LW_law_689 : decode code 689 = .ok (.istore 6, 2) := by decide +kernel
theorem d_LW_law_691 : decode code 691 = .ok (.aload_n 2, 1) := by decide +kernel
theorem d_LW_law_692 : decode code 692 = .ok (.invokevirtual 88, 3) := by decide +kernel
theorem d_LW_law_695 : decode code 695 = .ok (.iload 5, 2) := by decide +kernel
theorem d_LW_law_697 : decode code 697 = .ok (.if_icmp .eq 5, 3) := by decide +kernel
theorem d_LW_law_700 : decode code 700 = .ok (.iconst 0, 1) := by decide +kernel
theorem d_LW_law_701 : decode code 701 = .ok (.ireturn, 1) := by decide +kernel
theorem d_LW_law_702 : decode code 702 = .ok (.iload 5, 2) := by decide +kernel
theorem d_LW_law_704 : decode code 704 = .ok (.ifCond .ne 15, 3) := by decide +kernel
theorem d_LW_law_707 : decode code 707 = .ok (.aload_n 3, 1) := by decide +kernel
theorem d_LW_law_708 : decode code 708 = .ok (.iconst 0, 1) := by decide +kernel
theorem d_LW_law_709 : decode code 709 = .ok (.laload, 1) := by decide +kernel
theorem d_LW_law_710 : decode code 710 = .ok (.iload 6, 2) := by decide +kernel
theorem d_LW_law_712 : decode code 712 = .ok (.i2l, 1) := by decide +kernel
theorem d_LW_law_713 : decode code 713 = .ok (.lcmp, 1) := by decide +kernel
theorem d_LW_law_714 : decode code 714 = .ok (.ifCond .eq 5, 3) := by decide +kernel
theorem d_LW_law_717 : decode code 717 = .ok (.iconst 0, 1) := by decide +kernel
theorem d_LW_law_718 : decode code 718 = .ok (.ireturn, 1) := by decide +kernel
theorem d_LW_law_719 : decode code 719 = .ok (.goto 694, 3) := by decide +kernel
theorem d_LW_law_722 : decode code 722 = .ok (.aload_n 1, 1) := by decide +kernel
theorem d_LW_law_723 : decode code 723 = .ok (.aload_n 0, 1) := by decide +kernel
theorem d_LW_law_724 : decode code 724 = .ok (.iload 4, 2) := by decide +kernel
theorem d_LW_law_726 : decode code 726 = .ok (.iconst 1, 1) := by decide +kernel
theorem d_LW_law_727 : decode code 727 = .ok (.iadd, 1) := by decide +kernel
theorem d_LW_law_728 : decode code 728 = .ok (.iaload, 1) := by decide +kernel
theorem d_LW_law_729 : decode code 729 = .ok (.aload_n 0, 1) := by decide +kernel
theorem d_LW_law_730 : decode code 730 = .ok (.iload 4, 2) := by decide +kernel
theorem d_LW_law_732 : decode code 732 = .ok (.iconst 2, 1) := by decide +kernel
theorem d_LW_law_733 : decode code 733 = .ok (.iadd, 1) := by decide +kernel
theorem d_LW_law_734 : decode code 734 = .ok (.iaload, 1) := by decide +kernel
theorem d_LW_law_735 : decode code 735 = .ok (.aload_n 0, 1) := by decide +kernel
theorem d_LW_law_736 : decode code 736 = .ok (.iload 4, 2) := by decide +kernel
theorem d_LW_law_738 : decode code 738 = .ok (.iconst 3, 1) := by decide +kernel
theorem d_LW_law_739 : decode code 739 = .ok (.iadd, 1) := by decide +kernel
theorem d_LW_law_740 : decode code 740 = .ok (.iaload, 1) := by decide +kernel
theorem d_LW_law_741 : decode code 741 = .ok (.aload_n 0, 1) := by decide +kernel
theorem d_LW_law_742 : decode code 742 = .ok (.iload 4, 2) := by decide +kernel
theorem d_LW_law_744 : decode code 744 = .ok (.iconst 4, 1) := by decide +kernel
theorem d_LW_law_745 : decode code 745 = .ok (.iadd, 1) := by decide +kernel
theorem d_LW_law_746 : decode code 746 = .ok (.iaload, 1) := by decide +kernel
theorem d_LW_law_747 : decode code 747 = .ok (.aload_n 0, 1) := by decide +kernel
theorem d_LW_law_748 : decode code 748 = .ok (.iload 4, 2) := by decide +kernel
theorem d_LW_law_750 : decode code 750 = .ok (.iconst 5, 1) := by decide +kernel
theorem d_LW_law_751 : decode code 751 = .ok (.iadd, 1) := by decide +kernel
theorem d_LW_law_752 : decode code 752 = .ok (.iaload, 1) := by decide +kernel
theorem d_LW_law_753 : decode code 753 = .ok (.aload_n 3, 1) := by decide +kernel
theorem d_LW_law_754 : decode code 754 = .ok (.invokestatic 118, 3) := by decide +kernel
theorem d_LW_law_757 : decode code 757 = .ok (.istore 5, 2) := by decide +kernel
theorem d_LW_law_759 : decode code 759 = .ok (.aload_n 2, 1) := by decide +kernel
theorem d_LW_law_760 : decode code 760 = .ok (.aload_n 0, 1) := by decide +kernel
theorem d_LW_law_761 : decode code 761 = .ok (.iload 4, 2) := by decide +kernel
theorem d_LW_law_763 : decode code 763 = .ok (.iconst 1, 1) := by decide +kernel
theorem d_LW_law_764 : decode code 764 = .ok (.iadd, 1) := by decide +kernel
theorem d_LW_law_765 : decode code 765 = .ok (.iaload, 1) := by decide +kernel
theorem d_LW_law_766 : decode code 766 = .ok (.aload_n 0, 1) := by decide +kernel
theorem d_LW_law_767 : decode code 767 = .ok (.iload 4, 2) := by decide +kernel
theorem d_LW_law_769 : decode code 769 = .ok (.iconst 2, 1) := by decide +kernel
theorem d_LW_law_770 : decode code 770 = .ok (.iadd, 1) := by decide +kernel
theorem d_LW_law_771 : decode code 771 = .ok (.iaload, 1) := by decide +kernel
theorem d_LW_law_772 : decode code 772 = .ok (.aload_n 0, 1) := by decide +kernel
theorem d_LW_law_773 : decode code 773 = .ok (.iload 4, 2) := by decide +kernel
theorem d_LW_law_775 : decode code 775 = .ok (.iconst 3, 1) := by decide +kernel
theorem d_LW_law_776 : decode code 776 = .ok (.iadd, 1) := by decide +kernel
theorem d_LW_law_777 : decode code 777 = .ok (.iaload, 1) := by decide +kernel
theorem d_LW_law_778 : decode code 778 = .ok (.aload_n 0, 1) := by decide +kernel
theorem d_LW_law_779 : decode code 779 = .ok (.iload 4, 2) := by decide +kernel
theorem d_LW_law_781 : decode code 781 = .ok (.iconst 4, 1) := by decide +kernel
theorem d_LW_law_782 : decode code 782 = .ok (.iadd, 1) := by decide +kernel
theorem d_LW_law_783 : decode code 783 = .ok (.iaload, 1) := by decide +kernel
theorem d_LW_law_784 : decode code 784 = .ok (.aload_n 0, 1) := by decide +kernel
theorem d_LW_law_785 : decode code 785 = .ok (.iload 4, 2) := by decide +kernel
theorem d_LW_law_787 : decode code 787 = .ok (.iconst 5, 1) := by decide +kernel
theorem d_LW_law_788 : decode code 788 = .ok (.iadd, 1) := by decide +kernel
theorem d_LW_law_789 : decode code 789 = .ok (.iaload, 1) := by decide +kernel
theorem d_LW_law_790 : decode code 790 = .ok (.invokevirtual 121, 3) := by decide +kernel
theorem d_LW_law_793 : decode code 793 = .ok (.istore 6, 2) := by decide +kernel
theorem d_LW_law_795 : decode code 795 = .ok (.aload_n 2, 1) := by decide +kernel
theorem d_LW_law_796 : decode code 796 = .ok (.invokevirtual 88, 3) := by decide +kernel
theorem d_LW_law_799 : decode code 799 = .ok (.iload 5, 2) := by decide +kernel
theorem d_LW_law_801 : decode code 801 = .ok (.if_icmp .eq 5, 3) := by decide +kernel
theorem d_LW_law_804 : decode code 804 = .ok (.iconst 0, 1) := by decide +kernel
theorem d_LW_law_805 : decode code 805 = .ok (.ireturn, 1) := by decide +kernel
theorem d_LW_law_806 : decode code 806 = .ok (.iload 5, 2) := by decide +kernel
theorem d_LW_law_808 : decode code 808 = .ok (.ifCond .ne 15, 3) := by decide +kernel
theorem d_LW_law_811 : decode code 811 = .ok (.aload_n 3, 1) := by decide +kernel
theorem d_LW_law_812 : decode code 812 = .ok (.iconst 0, 1) := by decide +kernel
theorem d_LW_law_813 : decode code 813 = .ok (.laload, 1) := by decide +kernel
theorem d_LW_law_814 : decode code 814 = .ok (.iload 6, 2) := by decide +kernel
theorem d_LW_law_816 : decode code 816 = .ok (.i2l, 1) := by decide +kernel
theorem d_LW_law_817 : decode code 817 = .ok (.lcmp, 1) := by decide +kernel
theorem d_LW_law_818 : decode code 818 = .ok (.ifCond .eq 5, 3) := by decide +kernel
theorem d_LW_law_821 : decode code 821 = .ok (.iconst 0, 1) := by decide +kernel
theorem d_LW_law_822 : decode code 822 = .ok (.ireturn, 1) := by decide +kernel
theorem d_LW_law_823 : decode code 823 = .ok (.goto 590, 3) := by decide +kernel
theorem d_LW_law_826 : decode code 826 = .ok (.aload_n 1, 1) := by decide +kernel
theorem d_LW_law_827 : decode code 827 = .ok (.aload_n 0, 1) := by decide +kernel
theorem d_LW_law_828 : decode code 828 = .ok (.iload 4, 2) := by decide +kernel
theorem d_LW_law_830 : decode code 830 = .ok (.iconst 1, 1) := by decide +kernel
theorem d_LW_law_831 : decode code 831 = .ok (.iadd, 1) := by decide +kernel
theorem d_LW_law_832 : decode code 832 = .ok (.iaload, 1) := by decide +kernel
theorem d_LW_law_833 : decode code 833 = .ok (.aload_n 0, 1) := by decide +kernel
theorem d_LW_law_834 : decode code 834 = .ok (.iload 4, 2) := by decide +kernel
theorem d_LW_law_836 : decode code 836 = .ok (.iconst 2, 1) := by decide +kernel
theorem d_LW_law_837 : decode code 837 = .ok (.iadd, 1) := by decide +kernel
theorem d_LW_law_838 : decode code 838 = .ok (.iaload, 1) := by decide +kernel
theorem d_LW_law_839 : decode code 839 = .ok (.aload_n 3, 1) := by decide +kernel
theorem d_LW_law_840 : decode code 840 = .ok (.invokestatic 122, 3) := by decide +kernel
theorem d_LW_law_843 : decode code 843 = .ok (.istore 5, 2) := by decide +kernel
theorem d_LW_law_845 : decode code 845 = .ok (.aload_n 2, 1) := by decide +kernel
theorem d_LW_law_846 : decode code 846 = .ok (.aload_n 0, 1) := by decide +kernel
theorem d_LW_law_847 : decode code 847 = .ok (.iload 4, 2) := by decide +kernel
theorem d_LW_law_849 : decode code 849 = .ok (.iconst 1, 1) := by decide +kernel
theorem d_LW_law_850 : decode code 850 = .ok (.iadd, 1) := by decide +kernel
theorem d_LW_law_851 : decode code 851 = .ok (.iaload, 1) := by decide +kernel
theorem d_LW_law_852 : decode code 852 = .ok (.aload_n 0, 1) := by decide +kernel
theorem d_LW_law_853 : decode code 853 = .ok (.iload 4, 2) := by decide +kernel
theorem d_LW_law_855 : decode code 855 = .ok (.iconst 2, 1) := by decide +kernel
theorem d_LW_law_856 : decode code 856 = .ok (.iadd, 1) := by decide +kernel
theorem d_LW_law_857 : decode code 857 = .ok (.iaload, 1) := by decide +kernel
theorem d_LW_law_858 : decode code 858 = .ok (.invokevirtual 124, 3) := by decide +kernel
theorem d_LW_law_861 : decode code 861 = .ok (.lstore 6, 2) := by decide +kernel
theorem d_LW_law_863 : decode code 863 = .ok (.aload_n 2, 1) := by decide +kernel
theorem d_LW_law_864 : decode code 864 = .ok (.invokevirtual 88, 3) := by decide +kernel
theorem d_LW_law_867 : decode code 867 = .ok (.iload 5, 2) := by decide +kernel
theorem d_LW_law_869 : decode code 869 = .ok (.if_icmp .eq 5, 3) := by decide +kernel
theorem d_LW_law_872 : decode code 872 = .ok (.iconst 0, 1) := by decide +kernel
theorem d_LW_law_873 : decode code 873 = .ok (.ireturn, 1) := by decide +kernel
theorem d_LW_law_874 : decode code 874 = .ok (.iload 5, 2) := by decide +kernel
theorem d_LW_law_876 : decode code 876 = .ok (.ifCond .ne 14, 3) := by decide +kernel
theorem d_LW_law_879 : decode code 879 = .ok (.aload_n 3, 1) := by decide +kernel
theorem d_LW_law_880 : decode code 880 = .ok (.iconst 0, 1) := by decide +kernel
theorem d_LW_law_881 : decode code 881 = .ok (.laload, 1) := by decide +kernel
theorem d_LW_law_882 : decode code 882 = .ok (.lload 6, 2) := by decide +kernel
theorem d_LW_law_884 : decode code 884 = .ok (.lcmp, 1) := by decide +kernel
theorem d_LW_law_885 : decode code 885 = .ok (.ifCond .eq 5, 3) := by decide +kernel
theorem d_LW_law_888 : decode code 888 = .ok (.iconst 0, 1) := by decide +kernel
theorem d_LW_law_889 : decode code 889 = .ok (.ireturn, 1) := by decide +kernel
theorem d_LW_law_890 : decode code 890 = .ok (.goto 523, 3) := by decide +kernel
theorem d_LW_law_893 : decode code 893 = .ok (.aload_n 1, 1) := by decide +kernel
theorem d_LW_law_894 : decode code 894 = .ok (.aload_n 0, 1) := by decide +kernel
theorem d_LW_law_895 : decode code 895 = .ok (.iload 4, 2) := by decide +kernel
theorem d_LW_law_897 : decode code 897 = .ok (.iconst 1, 1) := by decide +kernel
theorem d_LW_law_898 : decode code 898 = .ok (.iadd, 1) := by decide +kernel
theorem d_LW_law_899 : decode code 899 = .ok (.iaload, 1) := by decide +kernel
theorem d_LW_law_900 : decode code 900 = .ok (.aload_n 0, 1) := by decide +kernel
theorem d_LW_law_901 : decode code 901 = .ok (.iload 4, 2) := by decide +kernel
theorem d_LW_law_903 : decode code 903 = .ok (.iconst 2, 1) := by decide +kernel
theorem d_LW_law_904 : decode code 904 = .ok (.iadd, 1) := by decide +kernel
theorem d_LW_law_905 : decode code 905 = .ok (.iaload, 1) := by decide +kernel
theorem d_LW_law_906 : decode code 906 = .ok (.aload_n 3, 1) := by decide +kernel
theorem d_LW_law_907 : decode code 907 = .ok (.invokestatic 125, 3) := by decide +kernel
theorem d_LW_law_910 : decode code 910 = .ok (.istore 5, 2) := by decide +kernel
theorem d_LW_law_912 : decode code 912 = .ok (.aload_n 2, 1) := by decide +kernel
theorem d_LW_law_913 : decode code 913 = .ok (.aload_n 0, 1) := by decide +kernel
theorem d_LW_law_914 : decode code 914 = .ok (.iload 4, 2) := by decide +kernel
theorem d_LW_law_916 : decode code 916 = .ok (.iconst 1, 1) := by decide +kernel
theorem d_LW_law_917 : decode code 917 = .ok (.iadd, 1) := by decide +kernel
theorem d_LW_law_918 : decode code 918 = .ok (.iaload, 1) := by decide +kernel
theorem d_LW_law_919 : decode code 919 = .ok (.aload_n 0, 1) := by decide +kernel
theorem d_LW_law_920 : decode code 920 = .ok (.iload 4, 2) := by decide +kernel
theorem d_LW_law_922 : decode code 922 = .ok (.iconst 2, 1) := by decide +kernel
theorem d_LW_law_923 : decode code 923 = .ok (.iadd, 1) := by decide +kernel
theorem d_LW_law_924 : decode code 924 = .ok (.iaload, 1) := by decide +kernel
theorem d_LW_law_925 : decode code 925 = .ok (.invokevirtual 127, 3) := by decide +kernel
theorem d_LW_law_928 : decode code 928 = .ok (.istore 6, 2) := by decide +kernel
theorem d_LW_law_930 : decode code 930 = .ok (.aload_n 2, 1) := by decide +kernel
theorem d_LW_law_931 : decode code 931 = .ok (.invokevirtual 88, 3) := by decide +kernel
theorem d_LW_law_934 : decode code 934 = .ok (.iload 5, 2) := by decide +kernel
theorem d_LW_law_936 : decode code 936 = .ok (.if_icmp .eq 5, 3) := by decide +kernel
theorem d_LW_law_939 : decode code 939 = .ok (.iconst 0, 1) := by decide +kernel
theorem d_LW_law_940 : decode code 940 = .ok (.ireturn, 1) := by decide +kernel
theorem d_LW_law_941 : decode code 941 = .ok (.iload 5, 2) := by decide +kernel
theorem d_LW_law_943 : decode code 943 = .ok (.ifCond .ne 15, 3) := by decide +kernel
theorem d_LW_law_946 : decode code 946 = .ok (.aload_n 3, 1) := by decide +kernel
theorem d_LW_law_947 : decode code 947 = .ok (.iconst 0, 1) := by decide +kernel
theorem d_LW_law_948 : decode code 948 = .ok (.laload, 1) := by decide +kernel
theorem d_LW_law_949 : decode code 949 = .ok (.iload 6, 2) := by decide +kernel
theorem d_LW_law_951 : decode code 951 = .ok (.i2l, 1) := by decide +kernel
theorem d_LW_law_952 : decode code 952 = .ok (.lcmp, 1) := by decide +kernel
theorem d_LW_law_953 : decode code 953 = .ok (.ifCond .eq 5, 3) := by decide +kernel
theorem d_LW_law_956 : decode code 956 = .ok (.iconst 0, 1) := by decide +kernel
theorem d_LW_law_957 : decode code 957 = .ok (.ireturn, 1) := by decide +kernel
theorem d_LW_law_958 : decode code 958 = .ok (.goto 455, 3) := by decide +kernel
theorem d_LW_law_961 : decode code 961 = .ok (.aload_n 1, 1) := by decide +kernel
theorem d_LW_law_962 : decode code 962 = .ok (.aload_n 0, 1) := by decide +kernel
theorem d_LW_law_963 : decode code 963 = .ok (.iload 4, 2) := by decide +kernel
theorem d_LW_law_965 : decode code 965 = .ok (.iconst 1, 1) := by decide +kernel
theorem d_LW_law_966 : decode code 966 = .ok (.iadd, 1) := by decide +kernel
theorem d_LW_law_967 : decode code 967 = .ok (.iaload, 1) := by decide +kernel
theorem d_LW_law_968 : decode code 968 = .ok (.aload_n 0, 1) := by decide +kernel
theorem d_LW_law_969 : decode code 969 = .ok (.iload 4, 2) := by decide +kernel
theorem d_LW_law_971 : decode code 971 = .ok (.iconst 2, 1) := by decide +kernel
theorem d_LW_law_972 : decode code 972 = .ok (.iadd, 1) := by decide +kernel
theorem d_LW_law_973 : decode code 973 = .ok (.iaload, 1) := by decide +kernel
theorem d_LW_law_974 : decode code 974 = .ok (.aload_n 3, 1) := by decide +kernel
theorem d_LW_law_975 : decode code 975 = .ok (.invokestatic 128, 3) := by decide +kernel
theorem d_LW_law_978 : decode code 978 = .ok (.istore 5, 2) := by decide +kernel
theorem d_LW_law_980 : decode code 980 = .ok (.aload_n 2, 1) := by decide +kernel
