/-! the law's names -/
theorem dL_choirs_547 : decode cL_choirs 547 = .ok (.iconst 0, 1) := by decide +kernel
theorem dL_choirs_548 : decode cL_choirs 548 = .ok (.iconst 2, 1) := by decide +kernel
theorem dL_choirs_549 : decode cL_choirs 549 = .ok (.iconst 0, 1) := by decide +kernel
theorem dL_choirs_550 : decode cL_choirs 550 = .ok (.iconst 1, 1) := by decide +kernel
theorem dL_choirs_551 : decode cL_choirs 551 = .ok (.invokestatic 228, 3) := by decide +kernel
theorem dL_choirs_554 : decode cL_choirs 554 = .ok (.ifCond .eq 10, 3) := by decide +kernel
theorem dL_choirs_557 : decode cL_choirs 557 = .ok (.aload_n 0, 1) := by decide +kernel
theorem dL_choirs_558 : decode cL_choirs 558 = .ok (.invokestatic 218, 3) := by decide +kernel
theorem dL_choirs_561 : decode cL_choirs 561 = .ok (.ifCond .ne 5, 3) := by decide +kernel
theorem dL_choirs_564 : decode cL_choirs 564 = .ok (.iconst 0, 1) := by decide +kernel
theorem dL_choirs_565 : decode cL_choirs 565 = .ok (.ireturn, 1) := by decide +kernel
theorem dL_choirs_566 : decode cL_choirs 566 = .ok (.aload_n 0, 1) := by decide +kernel
theorem dL_choirs_567 : decode cL_choirs 567 = .ok (.iconst 0, 1) := by decide +kernel
theorem dL_choirs_568 : decode cL_choirs 568 = .ok (.iconst 4, 1) := by decide +kernel
theorem dL_choirs_569 : decode cL_choirs 569 = .ok (.bipush 20, 2) := by decide +kernel
theorem dL_choirs_571 : decode cL_choirs 571 = .ok (.invokevirtual 46, 3) := by decide +kernel
theorem dL_choirs_574 : decode cL_choirs 574 = .ok (.bipush 20, 2) := by decide +kernel
theorem dL_choirs_576 : decode cL_choirs 576 = .ok (.if_icmp .ne 253, 3) := by decide +kernel
theorem dL_choirs_579 : decode cL_choirs 579 = .ok (.aload_n 0, 1) := by decide +kernel
theorem dL_choirs_580 : decode cL_choirs 580 = .ok (.bipush 90, 2) := by decide +kernel
theorem dL_choirs_582 : decode cL_choirs 582 = .ok (.iconst 0, 1) := by decide +kernel
theorem dL_choirs_583 : decode cL_choirs 583 = .ok (.iconst 0, 1) := by decide +kernel
theorem dL_choirs_584 : decode cL_choirs 584 = .ok (.iconst 0, 1) := by decide +kernel
theorem dL_choirs_585 : decode cL_choirs 585 = .ok (.invokestatic 208, 3) := by decide +kernel
theorem dL_choirs_588 : decode cL_choirs 588 = .ok (.ifCond .eq 241, 3) := by decide +kernel
theorem dL_choirs_591 : decode cL_choirs 591 = .ok (.aload_n 0, 1) := by decide +kernel
theorem dL_choirs_592 : decode cL_choirs 592 = .ok (.iconst 4, 1) := by decide +kernel
theorem dL_choirs_593 : decode cL_choirs 593 = .ok (.invokevirtual 95, 3) := by decide +kernel
theorem dL_choirs_596 : decode cL_choirs 596 = .ok (.iconst 1, 1) := by decide +kernel
theorem dL_choirs_597 : decode cL_choirs 597 = .ok (.if_icmp .ne 232, 3) := by decide +kernel
theorem dL_choirs_600 : decode cL_choirs 600 = .ok (.aload_n 0, 1) := by decide +kernel
theorem dL_choirs_601 : decode cL_choirs 601 = .ok (.iconst 0, 1) := by decide +kernel
theorem dL_choirs_602 : decode cL_choirs 602 = .ok (.invokevirtual 82, 3) := by decide +kernel
theorem dL_choirs_605 : decode cL_choirs 605 = .ok (.bipush 20, 2) := by decide +kernel
theorem dL_choirs_607 : decode cL_choirs 607 = .ok (.if_icmp .ne 222, 3) := by decide +kernel
theorem dL_choirs_610 : decode cL_choirs 610 = .ok (.aload_n 0, 1) := by decide +kernel
theorem dL_choirs_611 : decode cL_choirs 611 = .ok (.iconst 0, 1) := by decide +kernel
theorem dL_choirs_612 : decode cL_choirs 612 = .ok (.iconst 0, 1) := by decide +kernel
theorem dL_choirs_613 : decode cL_choirs 613 = .ok (.iconst 0, 1) := by decide +kernel
theorem dL_choirs_614 : decode cL_choirs 614 = .ok (.invokevirtual 131, 3) := by decide +kernel
theorem dL_choirs_617 : decode cL_choirs 617 = .ok (.iconst 2, 1) := by decide +kernel
theorem dL_choirs_618 : decode cL_choirs 618 = .ok (.if_icmp .ne 211, 3) := by decide +kernel
theorem dL_choirs_621 : decode cL_choirs 621 = .ok (.aload_n 0, 1) := by decide +kernel
theorem dL_choirs_622 : decode cL_choirs 622 = .ok (.iconst 1, 1) := by decide +kernel
theorem dL_choirs_623 : decode cL_choirs 623 = .ok (.iconst 0, 1) := by decide +kernel
theorem dL_choirs_624 : decode cL_choirs 624 = .ok (.iconst 0, 1) := by decide +kernel
theorem dL_choirs_625 : decode cL_choirs 625 = .ok (.invokevirtual 131, 3) := by decide +kernel
theorem dL_choirs_628 : decode cL_choirs 628 = .ok (.iconst 2, 1) := by decide +kernel
theorem dL_choirs_629 : decode cL_choirs 629 = .ok (.if_icmp .ne 200, 3) := by decide +kernel
theorem dL_choirs_632 : decode cL_choirs 632 = .ok (.aload_n 0, 1) := by decide +kernel
theorem dL_choirs_633 : decode cL_choirs 633 = .ok (.iconst 3, 1) := by decide +kernel
theorem dL_choirs_634 : decode cL_choirs 634 = .ok (.iconst 0, 1) := by decide +kernel
theorem dL_choirs_635 : decode cL_choirs 635 = .ok (.iconst 3, 1) := by decide +kernel
theorem dL_choirs_636 : decode cL_choirs 636 = .ok (.iconst 5, 1) := by decide +kernel
theorem dL_choirs_637 : decode cL_choirs 637 = .ok (.invokestatic 187, 3) := by decide +kernel
theorem dL_choirs_640 : decode cL_choirs 640 = .ok (.sipush (-2013), 3) := by decide +kernel
theorem dL_choirs_643 : decode cL_choirs 643 = .ok (.if_icmp .ne 186, 3) := by decide +kernel
theorem dL_choirs_646 : decode cL_choirs 646 = .ok (.aload_n 0, 1) := by decide +kernel
theorem dL_choirs_647 : decode cL_choirs 647 = .ok (.iconst 3, 1) := by decide +kernel
theorem dL_choirs_648 : decode cL_choirs 648 = .ok (.iconst 2, 1) := by decide +kernel
theorem dL_choirs_649 : decode cL_choirs 649 = .ok (.iconst 3, 1) := by decide +kernel
theorem dL_choirs_650 : decode cL_choirs 650 = .ok (.iconst 5, 1) := by decide +kernel
theorem dL_choirs_651 : decode cL_choirs 651 = .ok (.invokestatic 187, 3) := by decide +kernel
theorem dL_choirs_654 : decode cL_choirs 654 = .ok (.sipush (-2013), 3) := by decide +kernel
theorem dL_choirs_657 : decode cL_choirs 657 = .ok (.if_icmp .ne 172, 3) := by decide +kernel
theorem dL_choirs_660 : decode cL_choirs 660 = .ok (.aload_n 0, 1) := by decide +kernel
theorem dL_choirs_661 : decode cL_choirs 661 = .ok (.iconst 0, 1) := by decide +kernel
theorem dL_choirs_662 : decode cL_choirs 662 = .ok (.iconst 4, 1) := by decide +kernel
theorem dL_choirs_663 : decode cL_choirs 663 = .ok (.iconst 0, 1) := by decide +kernel
theorem dL_choirs_664 : decode cL_choirs 664 = .ok (.iconst 2, 1) := by decide +kernel
theorem dL_choirs_665 : decode cL_choirs 665 = .ok (.invokestatic 225, 3) := by decide +kernel
theorem dL_choirs_668 : decode cL_choirs 668 = .ok (.ifCond .eq 161, 3) := by decide +kernel
theorem dL_choirs_671 : decode cL_choirs 671 = .ok (.aload_n 0, 1) := by decide +kernel
theorem dL_choirs_672 : decode cL_choirs 672 = .ok (.invokevirtual 231, 3) := by decide +kernel
theorem dL_choirs_675 : decode cL_choirs 675 = .ok (.ifCond .ne 154, 3) := by decide +kernel
theorem dL_choirs_678 : decode cL_choirs 678 = .ok (.aload_n 0, 1) := by decide +kernel
theorem dL_choirs_679 : decode cL_choirs 679 = .ok (.bipush 10, 2) := by decide +kernel
theorem dL_choirs_681 : decode cL_choirs 681 = .ok (.invokevirtual 60, 3) := by decide +kernel
theorem dL_choirs_684 : decode cL_choirs 684 = .ok (.iconst 1, 1) := by decide +kernel
theorem dL_choirs_685 : decode cL_choirs 685 = .ok (.if_icmp .ne 144, 3) := by decide +kernel
theorem dL_choirs_688 : decode cL_choirs 688 = .ok (.aload_n 0, 1) := by decide +kernel
theorem dL_choirs_689 : decode cL_choirs 689 = .ok (.iconst 0, 1) := by decide +kernel
theorem dL_choirs_690 : decode cL_choirs 690 = .ok (.invokevirtual 101, 3) := by decide +kernel
theorem dL_choirs_693 : decode cL_choirs 693 = .ok (.ifCond .eq 136, 3) := by decide +kernel
theorem dL_choirs_696 : decode cL_choirs 696 = .ok (.aload_n 0, 1) := by decide +kernel
theorem dL_choirs_697 : decode cL_choirs 697 = .ok (.iconst 0, 1) := by decide +kernel
theorem dL_choirs_698 : decode cL_choirs 698 = .ok (.iconst (-1), 1) := by decide +kernel
theorem dL_choirs_699 : decode cL_choirs 699 = .ok (.iconst (-1), 1) := by decide +kernel
theorem dL_choirs_700 : decode cL_choirs 700 = .ok (.iconst 0, 1) := by decide +kernel
theorem dL_choirs_701 : decode cL_choirs 701 = .ok (.invokestatic 222, 3) := by decide +kernel
theorem dL_choirs_704 : decode cL_choirs 704 = .ok (.ifCond .eq 125, 3) := by decide +kernel
theorem dL_choirs_707 : decode cL_choirs 707 = .ok (.aload_n 0, 1) := by decide +kernel
theorem dL_choirs_708 : decode cL_choirs 708 = .ok (.iconst 0, 1) := by decide +kernel
theorem dL_choirs_709 : decode cL_choirs 709 = .ok (.invokevirtual 104, 3) := by decide +kernel
theorem dL_choirs_712 : decode cL_choirs 712 = .ok (.iconst 4, 1) := by decide +kernel
theorem dL_choirs_713 : decode cL_choirs 713 = .ok (.if_icmp .ne 116, 3) := by decide +kernel
theorem dL_choirs_716 : decode cL_choirs 716 = .ok (.aload_n 0, 1) := by decide +kernel
theorem dL_choirs_717 : decode cL_choirs 717 = .ok (.iconst 0, 1) := by decide +kernel
theorem dL_choirs_718 : decode cL_choirs 718 = .ok (.invokevirtual 113, 3) := by decide +kernel
theorem dL_choirs_721 : decode cL_choirs 721 = .ok (.iconst 2, 1) := by decide +kernel
theorem dL_choirs_722 : decode cL_choirs 722 = .ok (.if_icmp .ne 107, 3) := by decide +kernel
theorem dL_choirs_725 : decode cL_choirs 725 = .ok (.aload_n 0, 1) := by decide +kernel
theorem dL_choirs_726 : decode cL_choirs 726 = .ok (.bipush 80, 2) := by decide +kernel
theorem dL_choirs_728 : decode cL_choirs 728 = .ok (.iconst 2, 1) := by decide +kernel
theorem dL_choirs_729 : decode cL_choirs 729 = .ok (.iconst 4, 1) := by decide +kernel
theorem dL_choirs_730 : decode cL_choirs 730 = .ok (.bipush 8, 2) := by decide +kernel
theorem dL_choirs_732 : decode cL_choirs 732 = .ok (.invokestatic 208, 3) := by decide +kernel
theorem dL_choirs_735 : decode cL_choirs 735 = .ok (.ifCond .eq 94, 3) := by decide +kernel
theorem dL_choirs_738 : decode cL_choirs 738 = .ok (.aload_n 0, 1) := by decide +kernel
theorem dL_choirs_739 : decode cL_choirs 739 = .ok (.iconst 2, 1) := by decide +kernel
theorem dL_choirs_740 : decode cL_choirs 740 = .ok (.invokevirtual 89, 3) := by decide +kernel
theorem dL_choirs_743 : decode cL_choirs 743 = .ok (.iconst 1, 1) := by decide +kernel
theorem dL_choirs_744 : decode cL_choirs 744 = .ok (.if_icmp .ne 85, 3) := by decide +kernel
theorem dL_choirs_747 : decode cL_choirs 747 = .ok (.aload_n 0, 1) := by decide +kernel
theorem dL_choirs_748 : decode cL_choirs 748 = .ok (.iconst 2, 1) := by decide +kernel
theorem dL_choirs_749 : decode cL_choirs 749 = .ok (.invokevirtual 92, 3) := by decide +kernel
theorem dL_choirs_752 : decode cL_choirs 752 = .ok (.iconst 1, 1) := by decide +kernel
theorem dL_choirs_753 : decode cL_choirs 753 = .ok (.if_icmp .ne 76, 3) := by decide +kernel
theorem dL_choirs_756 : decode cL_choirs 756 = .ok (.aload_n 0, 1) := by decide +kernel
theorem dL_choirs_757 : decode cL_choirs 757 = .ok (.iconst 0, 1) := by decide +kernel
theorem dL_choirs_758 : decode cL_choirs 758 = .ok (.invokevirtual 89, 3) := by decide +kernel
theorem dL_choirs_761 : decode cL_choirs 761 = .ok (.ifCond .ne 68, 3) := by decide +kernel
theorem dL_choirs_764 : decode cL_choirs 764 = .ok (.aload_n 0, 1) := by decide +kernel
theorem dL_choirs_765 : decode cL_choirs 765 = .ok (.bipush 29, 2) := by decide +kernel
theorem dL_choirs_767 : decode cL_choirs 767 = .ok (.iconst 0, 1) := by decide +kernel
theorem dL_choirs_768 : decode cL_choirs 768 = .ok (.iconst 0, 1) := by decide +kernel
theorem dL_choirs_769 : decode cL_choirs 769 = .ok (.iconst 0, 1) := by decide +kernel
theorem dL_choirs_770 : decode cL_choirs 770 = .ok (.invokestatic 187, 3) := by decide +kernel
theorem dL_choirs_773 : decode cL_choirs 773 = .ok (.sipush (-2013), 3) := by decide +kernel
theorem dL_choirs_776 : decode cL_choirs 776 = .ok (.if_icmp .ne 53, 3) := by decide +kernel
theorem dL_choirs_779 : decode cL_choirs 779 = .ok (.aload_n 0, 1) := by decide +kernel
theorem dL_choirs_780 : decode cL_choirs 780 = .ok (.bipush 23, 2) := by decide +kernel
theorem dL_choirs_782 : decode cL_choirs 782 = .ok (.iconst 0, 1) := by decide +kernel
theorem dL_choirs_783 : decode cL_choirs 783 = .ok (.iconst 0, 1) := by decide +kernel
theorem dL_choirs_784 : decode cL_choirs 784 = .ok (.iconst 0, 1) := by decide +kernel
theorem dL_choirs_785 : decode cL_choirs 785 = .ok (.invokestatic 187, 3) := by decide +kernel
theorem dL_choirs_788 : decode cL_choirs 788 = .ok (.sipush (-2013), 3) := by decide +kernel
theorem dL_choirs_791 : decode cL_choirs 791 = .ok (.if_icmp .ne 38, 3) := by decide +kernel
theorem dL_choirs_794 : decode cL_choirs 794 = .ok (.aload_n 0, 1) := by decide +kernel
theorem dL_choirs_795 : decode cL_choirs 795 = .ok (.bipush 6, 2) := by decide +kernel
theorem dL_choirs_797 : decode cL_choirs 797 = .ok (.iconst 0, 1) := by decide +kernel
theorem dL_choirs_798 : decode cL_choirs 798 = .ok (.iconst 0, 1) := by decide +kernel
theorem dL_choirs_799 : decode cL_choirs 799 = .ok (.iconst 0, 1) := by decide +kernel
theorem dL_choirs_800 : decode cL_choirs 800 = .ok (.invokestatic 187, 3) := by decide +kernel
theorem dL_choirs_803 : decode cL_choirs 803 = .ok (.sipush (-2013), 3) := by decide +kernel
theorem dL_choirs_806 : decode cL_choirs 806 = .ok (.if_icmp .ne 23, 3) := by decide +kernel
theorem dL_choirs_809 : decode cL_choirs 809 = .ok (.aload_n 0, 1) := by decide +kernel
theorem dL_choirs_810 : decode cL_choirs 810 = .ok (.iconst 0, 1) := by decide +kernel
theorem dL_choirs_811 : decode cL_choirs 811 = .ok (.iconst 0, 1) := by decide +kernel
theorem dL_choirs_812 : decode cL_choirs 812 = .ok (.invokevirtual 122, 3) := by decide +kernel
theorem dL_choirs_815 : decode cL_choirs 815 = .ok (.iconst 1, 1) := by decide +kernel
theorem dL_choirs_816 : decode cL_choirs 816 = .ok (.if_icmp .ne 13, 3) := by decide +kernel
theorem dL_choirs_819 : decode cL_choirs 819 = .ok (.aload_n 0, 1) := by decide +kernel
theorem dL_choirs_820 : decode cL_choirs 820 = .ok (.iconst 0, 1) := by decide +kernel
theorem dL_choirs_821 : decode cL_choirs 821 = .ok (.invokevirtual 82, 3) := by decide +kernel
theorem dL_choirs_824 : decode cL_choirs 824 = .ok (.bipush 20, 2) := by decide +kernel
theorem dL_choirs_826 : decode cL_choirs 826 = .ok (.if_icmp .eq 5, 3) := by decide +kernel
theorem dL_choirs_829 : decode cL_choirs 829 = .ok (.iconst 0, 1) := by decide +kernel
theorem dL_choirs_830 : decode cL_choirs 830 = .ok (.ireturn, 1) := by decide +kernel
theorem dL_choirs_831 : decode cL_choirs 831 = .ok (.aload_n 0, 1) := by decide +kernel
theorem dL_choirs_832 : decode cL_choirs 832 = .ok (.bipush 20, 2) := by decide +kernel
theorem dL_choirs_834 : decode cL_choirs 834 = .ok (.invokevirtual 60, 3) := by decide +kernel
theorem dL_choirs_837 : decode cL_choirs 837 = .ok (.iconst 1, 1) := by decide +kernel
theorem dL_choirs_838 : decode cL_choirs 838 = .ok (.if_icmp .ne 114, 3) := by decide +kernel
theorem dL_choirs_841 : decode cL_choirs 841 = .ok (.aload_n 0, 1) := by decide +kernel
theorem dL_choirs_842 : decode cL_choirs 842 = .ok (.iconst 1, 1) := by decide +kernel
theorem dL_choirs_843 : decode cL_choirs 843 = .ok (.invokevirtual 113, 3) := by decide +kernel
theorem dL_choirs_846 : decode cL_choirs 846 = .ok (.iconst (-1), 1) := by decide +kernel
theorem dL_choirs_847 : decode cL_choirs 847 = .ok (.if_icmp .ne 105, 3) := by decide +kernel
theorem dL_choirs_850 : decode cL_choirs 850 = .ok (.aload_n 0, 1) := by decide +kernel
theorem dL_choirs_851 : decode cL_choirs 851 = .ok (.iconst 1, 1) := by decide +kernel
theorem dL_choirs_852 : decode cL_choirs 852 = .ok (.invokevirtual 104, 3) := by decide +kernel
theorem dL_choirs_855 : decode cL_choirs 855 = .ok (.ifCond .ne 97, 3) := by decide +kernel
theorem dL_choirs_858 : decode cL_choirs 858 = .ok (.aload_n 0, 1) := by decide +kernel
theorem dL_choirs_859 : decode cL_choirs 859 = .ok (.iconst 2, 1) := by decide +kernel
theorem dL_choirs_860 : decode cL_choirs 860 = .ok (.invokevirtual 63, 3) := by decide +kernel
theorem dL_choirs_863 : decode cL_choirs 863 = .ok (.ifCond .eq 89, 3) := by decide +kernel
theorem dL_choirs_866 : decode cL_choirs 866 = .ok (.aload_n 0, 1) := by decide +kernel
theorem dL_choirs_867 : decode cL_choirs 867 = .ok (.iconst 0, 1) := by decide +kernel
theorem dL_choirs_868 : decode cL_choirs 868 = .ok (.invokevirtual 82, 3) := by decide +kernel
theorem dL_choirs_871 : decode cL_choirs 871 = .ok (.iconst (-1), 1) := by decide +kernel
theorem dL_choirs_872 : decode cL_choirs 872 = .ok (.if_icmp .ne 80, 3) := by decide +kernel
theorem dL_choirs_875 : decode cL_choirs 875 = .ok (.aload_n 0, 1) := by decide +kernel
theorem dL_choirs_876 : decode cL_choirs 876 = .ok (.iconst 1, 1) := by decide +kernel
theorem dL_choirs_877 : decode cL_choirs 877 = .ok (.invokevirtual 60, 3) := by decide +kernel
theorem dL_choirs_880 : decode cL_choirs 880 = .ok (.ifCond .ne 72, 3) := by decide +kernel
theorem dL_choirs_883 : decode cL_choirs 883 = .ok (.aload_n 0, 1) := by decide +kernel
theorem dL_choirs_884 : decode cL_choirs 884 = .ok (.iconst 2, 1) := by decide +kernel
theorem dL_choirs_885 : decode cL_choirs 885 = .ok (.invokevirtual 63, 3) := by decide +kernel
theorem dL_choirs_888 : decode cL_choirs 888 = .ok (.ifCond .ne 64, 3) := by decide +kernel
theorem dL_choirs_891 : decode cL_choirs 891 = .ok (.aload_n 0, 1) := by decide +kernel
theorem dL_choirs_892 : decode cL_choirs 892 = .ok (.iconst 1, 1) := by decide +kernel
theorem dL_choirs_893 : decode cL_choirs 893 = .ok (.iconst 2, 1) := by decide +kernel
theorem dL_choirs_894 : decode cL_choirs 894 = .ok (.iconst 0, 1) := by decide +kernel
theorem dL_choirs_895 : decode cL_choirs 895 = .ok (.iconst 0, 1) := by decide +kernel
theorem dL_choirs_896 : decode cL_choirs 896 = .ok (.invokestatic 187, 3) := by decide +kernel
theorem dL_choirs_899 : decode cL_choirs 899 = .ok (.sipush (-2013), 3) := by decide +kernel
theorem dL_choirs_902 : decode cL_choirs 902 = .ok (.if_icmp .ne 50, 3) := by decide +kernel
theorem dL_choirs_905 : decode cL_choirs 905 = .ok (.aload_n 0, 1) := by decide +kernel
theorem dL_choirs_906 : decode cL_choirs 906 = .ok (.iconst 4, 1) := by decide +kernel
theorem dL_choirs_907 : decode cL_choirs 907 = .ok (.iconst 2, 1) := by decide +kernel
theorem dL_choirs_908 : decode cL_choirs 908 = .ok (.bipush 99, 2) := by decide +kernel
theorem dL_choirs_910 : decode cL_choirs 910 = .ok (.bipush 99, 2) := by decide +kernel
theorem dL_choirs_912 : decode cL_choirs 912 = .ok (.invokestatic 187, 3) := by decide +kernel
theorem dL_choirs_915 : decode cL_choirs 915 = .ok (.sipush (-2013), 3) := by decide +kernel
theorem dL_choirs_918 : decode cL_choirs 918 = .ok (.if_icmp .ne 34, 3) := by decide +kernel
theorem dL_choirs_921 : decode cL_choirs 921 = .ok (.aload_n 0, 1) := by decide +kernel
theorem dL_choirs_922 : decode cL_choirs 922 = .ok (.invokevirtual 155, 3) := by decide +kernel
theorem dL_choirs_925 : decode cL_choirs 925 = .ok (.bipush 31, 2) := by decide +kernel
theorem dL_choirs_927 : decode cL_choirs 927 = .ok (.if_icmp .ne 25, 3) := by decide +kernel
theorem dL_choirs_930 : decode cL_choirs 930 = .ok (.aload_n 0, 1) := by decide +kernel
theorem dL_choirs_931 : decode cL_choirs 931 = .ok (.iconst 0, 1) := by decide +kernel
theorem dL_choirs_932 : decode cL_choirs 932 = .ok (.iconst 2, 1) := by decide +kernel
theorem dL_choirs_933 : decode cL_choirs 933 = .ok (.invokevirtual 116, 3) := by decide +kernel
theorem dL_choirs_936 : decode cL_choirs 936 = .ok (.ifCond .ne 16, 3) := by decide +kernel
theorem dL_choirs_939 : decode cL_choirs 939 = .ok (.aload_n 0, 1) := by decide +kernel
theorem dL_choirs_940 : decode cL_choirs 940 = .ok (.bipush 80, 2) := by decide +kernel
theorem dL_choirs_942 : decode cL_choirs 942 = .ok (.iconst 2, 1) := by decide +kernel
theorem dL_choirs_943 : decode cL_choirs 943 = .ok (.iconst 4, 1) := by decide +kernel
theorem dL_choirs_944 : decode cL_choirs 944 = .ok (.bipush 8, 2) := by decide +kernel
theorem dL_choirs_946 : decode cL_choirs 946 = .ok (.invokestatic 208, 3) := by decide +kernel
theorem dL_choirs_949 : decode cL_choirs 949 = .ok (.ifCond .ne 5, 3) := by decide +kernel
theorem dL_choirs_952 : decode cL_choirs 952 = .ok (.iconst 0, 1) := by decide +kernel
theorem dL_choirs_953 : decode cL_choirs 953 = .ok (.ireturn, 1) := by decide +kernel
theorem dL_choirs_954 : decode cL_choirs 954 = .ok (.iconst 0, 1) := by decide +kernel
theorem dL_choirs_955 : decode cL_choirs 955 = .ok (.istore_n 1, 1) := by decide +kernel
theorem dL_choirs_956 : decode cL_choirs 956 = .ok (.iload_n 1, 1) := by decide +kernel
theorem dL_choirs_957 : decode cL_choirs 957 = .ok (.bipush 10, 2) := by decide +kernel
theorem dL_choirs_959 : decode cL_choirs 959 = .ok (.if_icmp .ge 20, 3) := by decide +kernel
theorem dL_choirs_962 : decode cL_choirs 962 = .ok (.aload_n 0, 1) := by decide +kernel
theorem dL_choirs_963 : decode cL_choirs 963 = .ok (.bipush 99, 2) := by decide +kernel
theorem dL_choirs_965 : decode cL_choirs 965 = .ok (.invokevirtual 60, 3) := by decide +kernel
theorem dL_choirs_968 : decode cL_choirs 968 = .ok (.ifCond .eq 5, 3) := by decide +kernel
theorem dL_choirs_971 : decode cL_choirs 971 = .ok (.iconst 0, 1) := by decide +kernel
theorem dL_choirs_972 : decode cL_choirs 972 = .ok (.ireturn, 1) := by decide +kernel
theorem dL_choirs_973 : decode cL_choirs 973 = .ok (.iinc 1 1, 3) := by decide +kernel
theorem dL_choirs_976 : decode cL_choirs 976 = .ok (.goto (-20), 3) := by decide +kernel
theorem dL_choirs_979 : decode cL_choirs 979 = .ok (.aload_n 0, 1) := by decide +kernel
theorem dL_choirs_980 : decode cL_choirs 980 = .ok (.bipush 58, 2) := by decide +kernel
theorem dL_choirs_982 : decode cL_choirs 982 = .ok (.invokevirtual 60, 3) := by decide +kernel
theorem dL_choirs_985 : decode cL_choirs 985 = .ok (.ifCond .ne 24, 3) := by decide +kernel
theorem dL_choirs_988 : decode cL_choirs 988 = .ok (.aload_n 0, 1) := by decide +kernel
theorem dL_choirs_989 : decode cL_choirs 989 = .ok (.invokevirtual 155, 3) := by decide +kernel
theorem dL_choirs_992 : decode cL_choirs 992 = .ok (.sipush 1079, 3) := by decide +kernel
theorem dL_choirs_995 : decode cL_choirs 995 = .ok (.if_icmp .ne 14, 3) := by decide +kernel
theorem dL_choirs_998 : decode cL_choirs 998 = .ok (.aload_n 0, 1) := by decide +kernel
theorem dL_choirs_999 : decode cL_choirs 999 = .ok (.invokestatic 234, 3) := by decide +kernel
theorem dL_choirs_1002 : decode cL_choirs 1002 = .ok (.ifCond .eq 7, 3) := by decide +kernel
theorem dL_choirs_1005 : decode cL_choirs 1005 = .ok (.iconst 1, 1) := by decide +kernel
theorem dL_choirs_1006 : decode cL_choirs 1006 = .ok (.goto 4, 3) := by decide +kernel
theorem dL_choirs_1009 : decode cL_choirs 1009 = .ok (.iconst 0, 1) := by decide +kernel
theorem dL_choirs_1010 : decode cL_choirs 1010 = .ok (.ireturn, 1) := by decide +kernel
set_option maxRecDepth 20000 in
theorem ggL_voices_X6_ageOf : GoodIn wsL_voices wsX6_ageOf := goodIn_ca (goodIn_ca (goodIn_ca (goodIn_r _ [5, 6, 7, 8, 9, 10, 11, 12, 4, 13, 14, 15, 16, 17, 18, 19, 20, 21, 22, 23, 24, 25, 26, 27, 28, 889, 890, 891, 892, 893, 894, 895, 896, 897, 898, 899, 900, 901, 902, 903, 904, 905, 906, 907, 908, 909, 910, 911, 912, 913, 914, 915, 916, 917, 918] rfl (by decide +kernel)) (goodIn_sub (fun _ h => List.mem_cons_of_mem _ (List.mem_append_left _ (List.mem_append_left _ (List.mem_append_right _ h)))) (by decide +kernel))) (goodIn_sub (fun _ h => List.mem_cons_of_mem _ (List.mem_append_left _ (List.mem_append_right _ h))) (by decide +kernel))) (goodIn_sub (fun _ h => List.mem_cons_of_mem _ (List.mem_append_right _ h)) (by decide +kernel))
set_option maxRecDepth 20000 in
theorem gL_voices_X6_ageOf : GoodIn wsL_voices (wsV RL 67 RX6 yX6_ageOf wsX6_ageOf) := goodIn_app (goodIn_of _ (by decide +kernel)) ggL_voices_X6_ageOf
set_option maxRecDepth 20000 in
theorem ggL_voices_X6_nextToBreak : GoodIn wsL_voices wsX6_nextToBreak := goodIn_r _ [32, 6, 8, 7, 33, 34, 35, 17, 36, 19, 37, 38, 39, 40, 41, 42, 889, 890, 891, 892, 893, 894, 895, 896, 897, 898, 899, 900, 901, 902, 903, 904, 905, 906, 907, 908, 909, 910, 911, 912, 913, 914, 915, 916, 917, 918] rfl (by decide +kernel)
set_option maxRecDepth 20000 in
theorem gL_voices_X6_nextToBreak : GoodIn wsL_voices (wsV RL 212 RX6 yX6_nextToBreak wsX6_nextToBreak) := goodIn_app (goodIn_of _ (by decide +kernel)) ggL_voices_X6_nextToBreak
set_option maxRecDepth 20000 in
theorem ggL_voices_X6_lowestNoteOf : GoodIn wsL_voices wsX6_lowestNoteOf := goodIn_ca (goodIn_ca (goodIn_ca (goodIn_r _ [46, 6, 8, 7, 47, 10, 11, 12, 4, 13, 14, 15, 16, 17, 18, 19, 20, 21, 22, 23, 24, 25, 26, 27, 28, 48, 49, 50, 51, 37, 889, 890, 891, 892, 893, 894, 895, 896, 897, 898, 899, 900, 901, 902, 903, 904, 905, 906, 907, 908, 909, 910, 911, 912, 913, 914, 915, 916, 917, 918] rfl (by decide +kernel)) (goodIn_sub (fun _ h => List.mem_cons_of_mem _ (List.mem_append_left _ (List.mem_append_left _ (List.mem_append_right _ h)))) (by decide +kernel))) (goodIn_sub (fun _ h => List.mem_cons_of_mem _ (List.mem_append_left _ (List.mem_append_right _ h))) (by decide +kernel))) (goodIn_sub (fun _ h => List.mem_cons_of_mem _ (List.mem_append_right _ h)) (by decide +kernel))
set_option maxRecDepth 20000 in
theorem gL_voices_X6_lowestNoteOf : GoodIn wsL_voices (wsV RL 70 RX6 yX6_lowestNoteOf wsX6_lowestNoteOf) := goodIn_app (goodIn_of _ (by decide +kernel)) ggL_voices_X6_lowestNoteOf
set_option maxRecDepth 20000 in
theorem ggL_voices_X6_announce : GoodIn wsL_voices wsX6_announce := goodIn_ca (goodIn_ca (goodIn_ca (goodIn_r _ [55, 6, 56, 57, 58, 59, 60, 61, 62, 63, 4, 64, 65, 66, 67, 68, 69, 70, 71, 72, 73, 74, 75, 20, 21, 22, 23, 24, 25, 26, 27, 28, 76, 77, 78, 79, 80, 81, 82, 83, 84, 85, 86, 87, 88, 89, 90, 91, 92, 93, 94, 95, 96, 97, 98, 99, 100, 101, 102, 103, 104, 17, 105, 19, 106, 107, 108, 109, 110, 37, 111, 112, 42, 113, 114, 115, 116, 117, 118, 119, 120, 121, 122, 123, 124, 125, 126, 127, 128, 129, 130, 131, 132, 133, 134, 135, 136, 137, 138, 139, 140, 141, 142, 143, 144, 145, 146, 147, 148, 889, 890, 891, 892, 893, 894, 895, 896, 897, 898, 899, 900, 901, 902, 903, 904, 905, 906, 919, 920, 921, 922, 923, 924, 925, 926, 907, 908, 909, 910, 911, 912, 913, 914, 915, 916, 917, 918, 927, 928, 929, 930] rfl (by decide +kernel)) (goodIn_sub (fun _ h => List.mem_cons_of_mem _ (List.mem_append_left _ (List.mem_append_left _ (List.mem_append_right _ h)))) (by decide +kernel))) (goodIn_sub (fun _ h => List.mem_cons_of_mem _ (List.mem_append_left _ (List.mem_append_right _ h))) (by decide +kernel))) (goodIn_sub (fun _ h => List.mem_cons_of_mem _ (List.mem_append_right _ h)) (by decide +kernel))
set_option maxRecDepth 20000 in
theorem gL_voices_X6_announce : GoodIn wsL_voices (wsV RL 53 RX6 yX6_announce wsX6_announce) := goodIn_app (goodIn_of _ (by decide +kernel)) ggL_voices_X6_announce
set_option maxRecDepth 20000 in
theorem ggL_voices_X6_setLine : GoodIn wsL_voices wsX6_setLine := goodIn_ca (goodIn_ca (goodIn_ca (goodIn_r _ [152, 6, 153, 154, 155, 59, 156, 62, 157, 158, 159, 68, 160, 70, 161, 4, 162, 163, 63, 64, 164, 165, 166, 167, 168, 169, 170, 61, 20, 21, 22, 23, 24, 25, 26, 27, 28, 76, 77, 78, 79, 80, 81, 82, 83, 84, 85, 86, 87, 88, 89, 90, 91, 92, 93, 94, 95, 96, 97, 98, 99, 100, 101, 102, 103, 104, 17, 105, 19, 106, 107, 108, 109, 110, 37, 111, 112, 42, 113, 114, 115, 116, 117, 118, 119, 120, 121, 122, 123, 124, 125, 126, 127, 128, 129, 75, 130, 131, 132, 133, 134, 135, 136, 171, 172, 173, 174, 175, 176, 177, 178, 179, 180, 181, 889, 890, 891, 892, 893, 894, 895, 896, 897, 898, 899, 900, 901, 902, 903, 904, 905, 906, 919, 920, 921, 922, 923, 924, 925, 926, 907, 908, 909, 910, 911, 912, 913, 914, 915, 916, 917, 918, 927, 928, 929, 930] rfl (by decide +kernel)) (goodIn_sub (fun _ h => List.mem_cons_of_mem _ (List.mem_append_left _ (List.mem_append_left _ (List.mem_append_right _ h)))) (by decide +kernel))) (goodIn_sub (fun _ h => List.mem_cons_of_mem _ (List.mem_append_left _ (List.mem_append_right _ h))) (by decide +kernel))) (goodIn_sub (fun _ h => List.mem_cons_of_mem _ (List.mem_append_right _ h)) (by decide +kernel))
set_option maxRecDepth 20000 in
theorem gL_voices_X6_setLine : GoodIn wsL_voices (wsV RL 57 RX6 yX6_setLine wsX6_setLine) := goodIn_app (goodIn_of _ (by decide +kernel)) ggL_voices_X6_setLine
set_option maxRecDepth 20000 in
theorem ggL_voices_X6_whyNot : GoodIn wsL_voices wsX6_whyNot := goodIn_ca (goodIn_ca (goodIn_ca (goodIn_r _ [185, 6, 186, 187, 188, 189, 190, 4, 191, 192, 158, 159, 68, 160, 70, 20, 21, 22, 23, 24, 25, 26, 27, 28, 10, 11, 12, 13, 8, 14, 15, 16, 17, 18, 19, 193, 194, 195, 196, 161, 162, 163, 63, 64, 197, 167, 168, 59, 169, 62, 170, 61, 198, 199, 200, 201, 90, 91, 202, 39, 40, 41, 42, 203, 204, 205, 206, 113, 207, 208, 209, 119, 210, 121, 122, 124, 125, 211, 212, 213, 214, 37, 215, 216, 217, 218, 176, 219, 177, 220, 221, 49, 50, 51, 889, 890, 891, 892, 893, 894, 895, 896, 897, 898, 899, 900, 901, 902, 903, 904, 905, 906, 919, 920, 921, 922, 923, 924, 925, 926, 907, 908, 909, 910, 911, 912, 913, 914, 915, 916, 917, 918, 927, 928, 929, 930] rfl (by decide +kernel)) (goodIn_sub (fun _ h => List.mem_cons_of_mem _ (List.mem_append_left _ (List.mem_append_left _ (List.mem_append_right _ h)))) (by decide +kernel))) (goodIn_sub (fun _ h => List.mem_cons_of_mem _ (List.mem_append_left _ (List.mem_append_right _ h))) (by decide +kernel))) (goodIn_sub (fun _ h => List.mem_cons_of_mem _ (List.mem_append_right _ h)) (by decide +kernel))
set_option maxRecDepth 20000 in
theorem gL_voices_X6_whyNot : GoodIn wsL_voices (wsV RL 131 RX6 yX6_whyNot wsX6_whyNot) := goodIn_app (goodIn_of _ (by decide +kernel)) ggL_voices_X6_whyNot
set_option maxRecDepth 20000 in
theorem ggL_voices_L_lines : GoodIn wsL_voices wsL_lines := goodIn_ca (goodIn_ca (goodIn_ca (goodIn_r _ [225, 226, 227, 228, 4, 229, 230, 6, 231, 188, 189, 190, 191, 186, 192, 158, 159, 68, 160, 70, 20, 21, 22, 23, 24, 25, 26, 27, 28, 10, 11, 12, 13, 8, 14, 15, 16, 17, 18, 19, 232, 233, 234, 235, 236, 237, 238, 239, 240, 94, 95, 96, 241, 167, 168, 59, 169, 62, 170, 61, 242, 243, 244, 245, 246, 247, 248, 249, 250, 251, 252, 253, 254, 255, 256, 199, 200, 201, 90, 91, 202, 39, 40, 41, 42, 203, 204, 205, 206, 113, 207, 208, 209, 119, 210, 121, 122, 124, 125, 211, 212, 213, 214, 37, 257, 216, 217, 218, 176, 219, 177, 220, 221, 49, 50, 51, 258, 146, 147, 148, 259, 260, 261, 262, 263, 264, 265, 266, 267, 268, 269, 270, 271, 272, 273, 274, 275, 276, 277, 278, 279, 280, 281, 282, 283, 284, 285, 286, 287, 288, 289, 889, 890, 891, 892, 893, 894, 895, 896, 931, 932, 933, 934, 935, 897, 898, 899, 900, 901, 902, 903, 904, 905, 906, 919, 920, 921, 922, 923, 924, 925, 926, 907, 908, 909, 910, 911, 912, 913, 914, 915, 916, 917, 918, 927, 928, 929, 930] rfl (by decide +kernel)) (goodIn_sub (fun _ h => List.mem_cons_of_mem _ (List.mem_append_left _ (List.mem_append_left _ (List.mem_append_right _ h)))) (by decide +kernel))) (goodIn_sub (fun _ h => List.mem_cons_of_mem _ (List.mem_append_left _ (List.mem_append_right _ h))) (by decide +kernel))) (goodIn_sub (fun _ h => List.mem_cons_of_mem _ (List.mem_append_right _ h)) (by decide +kernel))
set_option maxRecDepth 20000 in
theorem gL_voices_L_lines : GoodIn wsL_voices (va_wsS RL 222 yL_lines wsL_lines) := goodIn_app (goodIn_of _ (by decide +kernel)) ggL_voices_L_lines
set_option maxRecDepth 20000 in
theorem ggL_voices_L_told : GoodIn wsL_voices wsL_told := goodIn_ca (goodIn_ca (goodIn_ca (goodIn_r _ [292, 293, 294, 295, 4, 296, 230, 6, 186, 188, 189, 190, 191, 192, 158, 159, 68, 160, 70, 20, 21, 22, 23, 24, 25, 26, 27, 28, 232, 233, 234, 235, 236, 237, 238, 239, 240, 94, 95, 96, 241, 167, 168, 59, 169, 62, 170, 61, 242, 243, 244, 245, 246, 247, 248, 249, 250, 251, 252, 253, 254, 255, 256, 199, 200, 201, 90, 91, 202, 39, 40, 17, 41, 42, 203, 204, 205, 206, 113, 207, 208, 209, 119, 210, 121, 122, 124, 125, 211, 212, 213, 214, 37, 257, 216, 217, 218, 176, 219, 177, 220, 221, 49, 50, 51, 258, 146, 147, 148, 259, 260, 261, 262, 263, 264, 265, 266, 267, 268, 269, 270, 271, 272, 273, 274, 275, 276, 277, 278, 279, 280, 281, 282, 283, 284, 285, 286, 287, 288, 289, 297, 179, 180, 181, 133, 298, 299, 300, 301, 302, 303, 304, 305, 306, 307, 308, 309, 197, 310, 311, 312, 313, 314, 315, 316, 317, 318, 319, 320, 321, 322, 323, 324, 325, 326, 327, 328, 329, 330, 331, 332, 333, 334, 75, 335, 336, 337, 338, 339, 340, 341, 342, 110, 889, 890, 891, 892, 893, 894, 895, 896, 897, 898, 899, 900, 901, 902, 903, 904, 905, 906, 919, 920, 921, 922, 923, 924, 925, 926, 931, 932, 933, 934, 935, 907, 908, 909, 910, 911, 912, 913, 914, 915, 916, 917, 918, 927, 928, 929, 930] rfl (by decide +kernel)) (goodIn_sub (fun _ h => List.mem_cons_of_mem _ (List.mem_append_left _ (List.mem_append_left _ (List.mem_append_right _ h)))) (by decide +kernel))) (goodIn_sub (fun _ h => List.mem_cons_of_mem _ (List.mem_append_left _ (List.mem_append_right _ h))) (by decide +kernel))) (goodIn_sub (fun _ h => List.mem_cons_of_mem _ (List.mem_append_right _ h)) (by decide +kernel))
set_option maxRecDepth 20000 in
theorem gL_voices_L_told : GoodIn wsL_voices (va_wsS RL 225 yL_told wsL_told) := goodIn_app (goodIn_of _ (by decide +kernel)) ggL_voices_L_told
set_option maxRecDepth 20000 in
theorem ggL_voices_X6_firstShortFeast : GoodIn wsL_voices wsX6_firstShortFeast := goodIn_r _ [346, 6, 186, 7, 230, 187, 347, 332, 333, 68, 334, 70, 75, 310, 311, 312, 235, 313, 248, 249, 237, 246, 251, 252, 253, 254, 250, 255, 256, 199, 200, 59, 201, 90, 91, 202, 39, 40, 17, 41, 42, 203, 204, 205, 206, 113, 207, 208, 209, 119, 210, 121, 122, 124, 125, 211, 212, 213, 214, 37, 257, 216, 217, 218, 62, 170, 176, 219, 177, 220, 221, 49, 50, 51, 264, 265, 266, 267, 268, 269, 270, 889, 890, 891, 892, 893, 894, 895, 896, 897, 898, 899, 900, 901, 902, 903, 904, 905, 906, 919, 920, 921, 922, 923, 924, 925, 926, 907, 908, 909, 910, 911, 912, 913, 914, 915, 916, 917, 918, 931, 932, 933, 934, 935, 927, 928, 929, 930] rfl (by decide +kernel)
set_option maxRecDepth 20000 in
theorem gL_voices_X6_firstShortFeast : GoodIn wsL_voices (wsV RL 215 RX6 yX6_firstShortFeast wsX6_firstShortFeast) := goodIn_app (goodIn_of _ (by decide +kernel)) ggL_voices_X6_firstShortFeast
set_option maxRecDepth 20000 in
theorem ggL_voices_X6_passDays : GoodIn wsL_voices wsX6_passDays := goodIn_ca (goodIn_ca (goodIn_ca (goodIn_r _ [351, 6, 230, 352, 353, 354, 59, 355, 61, 63, 4, 64, 20, 21, 22, 23, 24, 25, 26, 27, 28, 76, 77, 78, 79, 80, 81, 82, 83, 84, 85, 86, 87, 88, 89, 90, 91, 62, 92, 93, 94, 95, 96, 97, 98, 99, 100, 101, 102, 103, 104, 17, 105, 19, 106, 107, 108, 109, 110, 37, 111, 112, 42, 113, 114, 115, 116, 117, 118, 119, 120, 121, 122, 123, 124, 125, 126, 127, 128, 68, 129, 70, 75, 130, 131, 132, 133, 134, 135, 136, 356, 357, 358, 359, 170, 360, 332, 333, 334, 361, 243, 244, 235, 245, 239, 237, 246, 247, 240, 248, 249, 250, 251, 252, 253, 254, 255, 256, 199, 200, 201, 202, 39, 40, 41, 203, 204, 205, 206, 207, 208, 209, 210, 211, 212, 213, 214, 257, 216, 217, 218, 176, 219, 177, 220, 221, 49, 50, 51, 258, 146, 147, 148, 259, 260, 261, 262, 263, 264, 265, 266, 267, 268, 269, 270, 271, 272, 273, 274, 275, 276, 277, 278, 279, 280, 281, 282, 283, 284, 285, 286, 287, 288, 289, 362, 363, 364, 365, 366, 367, 368, 369, 370, 371, 372, 336, 337, 338, 339, 340, 341, 342, 373, 374, 375, 376, 377, 378, 379, 299, 300, 301, 302, 303, 304, 305, 178, 179, 180, 181, 889, 890, 891, 892, 893, 894, 895, 896, 897, 898, 899, 900, 901, 902, 903, 904, 905, 906, 907, 908, 909, 910, 911, 912, 913, 914, 915, 916, 917, 918, 927, 928, 929, 930, 919, 920, 921, 922, 923, 924, 925, 926, 931, 932, 933, 934, 935] rfl (by decide +kernel)) (goodIn_sub (fun _ h => List.mem_cons_of_mem _ (List.mem_append_left _ (List.mem_append_left _ (List.mem_append_right _ h)))) (by decide +kernel))) (goodIn_sub (fun _ h => List.mem_cons_of_mem _ (List.mem_append_left _ (List.mem_append_right _ h))) (by decide +kernel))) (goodIn_sub (fun _ h => List.mem_cons_of_mem _ (List.mem_append_right _ h)) (by decide +kernel))
set_option maxRecDepth 20000 in
theorem gL_voices_X6_passDays : GoodIn wsL_voices (wsV RL 60 RX6 yX6_passDays wsX6_passDays) := goodIn_app (goodIn_of _ (by decide +kernel)) ggL_voices_X6_passDays
set_option maxRecDepth 20000 in
theorem ggL_voices_X6_highestNoteOf : GoodIn wsL_voices wsX6_highestNoteOf := goodIn_ca (goodIn_ca (goodIn_ca (goodIn_r _ [383, 6, 8, 7, 384, 10, 11, 12, 4, 13, 14, 15, 16, 17, 18, 19, 20, 21, 22, 23, 24, 25, 26, 27, 28, 48, 49, 50, 51, 37, 889, 890, 891, 892, 893, 894, 895, 896, 897, 898, 899, 900, 901, 902, 903, 904, 905, 906, 907, 908, 909, 910, 911, 912, 913, 914, 915, 916, 917, 918] rfl (by decide +kernel)) (goodIn_sub (fun _ h => List.mem_cons_of_mem _ (List.mem_append_left _ (List.mem_append_left _ (List.mem_append_right _ h)))) (by decide +kernel))) (goodIn_sub (fun _ h => List.mem_cons_of_mem _ (List.mem_append_left _ (List.mem_append_right _ h))) (by decide +kernel))) (goodIn_sub (fun _ h => List.mem_cons_of_mem _ (List.mem_append_right _ h)) (by decide +kernel))
set_option maxRecDepth 20000 in
theorem gL_voices_X6_highestNoteOf : GoodIn wsL_voices (wsV RL 73 RX6 yX6_highestNoteOf wsX6_highestNoteOf) := goodIn_app (goodIn_of _ (by decide +kernel)) ggL_voices_X6_highestNoteOf
set_option maxRecDepth 20000 in
theorem ggL_voices_X6_breakDayOf : GoodIn wsL_voices wsX6_breakDayOf := goodIn_ca (goodIn_ca (goodIn_ca (goodIn_r _ [388, 6, 8, 389, 10, 11, 12, 4, 13, 14, 15, 16, 17, 18, 19, 20, 21, 22, 23, 24, 25, 26, 27, 28, 889, 890, 891, 892, 893, 894, 895, 896, 897, 898, 899, 900, 901, 902, 903, 904, 905, 906, 907, 908, 909, 910, 911, 912, 913, 914, 915, 916, 917, 918] rfl (by decide +kernel)) (goodIn_sub (fun _ h => List.mem_cons_of_mem _ (List.mem_append_left _ (List.mem_append_left _ (List.mem_append_right _ h)))) (by decide +kernel))) (goodIn_sub (fun _ h => List.mem_cons_of_mem _ (List.mem_append_left _ (List.mem_append_right _ h))) (by decide +kernel))) (goodIn_sub (fun _ h => List.mem_cons_of_mem _ (List.mem_append_right _ h)) (by decide +kernel))
set_option maxRecDepth 20000 in
theorem gL_voices_X6_breakDayOf : GoodIn wsL_voices (wsV RL 76 RX6 yX6_breakDayOf wsX6_breakDayOf) := goodIn_app (goodIn_of _ (by decide +kernel)) ggL_voices_X6_breakDayOf
set_option maxRecDepth 20000 in
theorem ggL_voices_X6_feastsOf : GoodIn wsL_voices wsX6_feastsOf := goodIn_ca (goodIn_ca (goodIn_ca (goodIn_r _ [393, 6, 8, 394, 10, 11, 12, 4, 13, 14, 15, 16, 17, 18, 19, 20, 21, 22, 23, 24, 25, 26, 27, 28, 889, 890, 891, 892, 893, 894, 895, 896, 897, 898, 899, 900, 901, 902, 903, 904, 905, 906, 907, 908, 909, 910, 911, 912, 913, 914, 915, 916, 917, 918] rfl (by decide +kernel)) (goodIn_sub (fun _ h => List.mem_cons_of_mem _ (List.mem_append_left _ (List.mem_append_left _ (List.mem_append_right _ h)))) (by decide +kernel))) (goodIn_sub (fun _ h => List.mem_cons_of_mem _ (List.mem_append_left _ (List.mem_append_right _ h))) (by decide +kernel))) (goodIn_sub (fun _ h => List.mem_cons_of_mem _ (List.mem_append_right _ h)) (by decide +kernel))
set_option maxRecDepth 20000 in
theorem gL_voices_X6_feastsOf : GoodIn wsL_voices (wsV RL 89 RX6 yX6_feastsOf wsX6_feastsOf) := goodIn_app (goodIn_of _ (by decide +kernel)) ggL_voices_X6_feastsOf
set_option maxRecDepth 20000 in
theorem ggL_voices_X6_descantsOf : GoodIn wsL_voices wsX6_descantsOf := goodIn_ca (goodIn_ca (goodIn_ca (goodIn_r _ [398, 6, 8, 399, 10, 11, 12, 4, 13, 14, 15, 16, 17, 18, 19, 20, 21, 22, 23, 24, 25, 26, 27, 28, 889, 890, 891, 892, 893, 894, 895, 896, 897, 898, 899, 900, 901, 902, 903, 904, 905, 906, 907, 908, 909, 910, 911, 912, 913, 914, 915, 916, 917, 918] rfl (by decide +kernel)) (goodIn_sub (fun _ h => List.mem_cons_of_mem _ (List.mem_append_left _ (List.mem_append_left _ (List.mem_append_right _ h)))) (by decide +kernel))) (goodIn_sub (fun _ h => List.mem_cons_of_mem _ (List.mem_append_left _ (List.mem_append_right _ h))) (by decide +kernel))) (goodIn_sub (fun _ h => List.mem_cons_of_mem _ (List.mem_append_right _ h)) (by decide +kernel))
set_option maxRecDepth 20000 in
theorem gL_voices_X6_descantsOf : GoodIn wsL_voices (wsV RL 92 RX6 yX6_descantsOf wsX6_descantsOf) := goodIn_app (goodIn_of _ (by decide +kernel)) ggL_voices_X6_descantsOf
set_option maxRecDepth 20000 in
theorem ggL_voices_L_accounts : GoodIn wsL_voices wsL_accounts := goodIn_r _ [402, 403, 404, 405, 4, 406, 6, 407, 408, 409, 410, 411, 412, 413, 414, 415, 416, 417, 418, 419, 420, 421, 422, 423, 424, 425, 426, 427, 889, 890, 891, 892, 893, 894, 895, 896, 897, 898, 899, 900, 901, 902, 903, 904, 905, 906] rfl (by decide +kernel)
set_option maxRecDepth 20000 in
theorem gL_voices_L_accounts : GoodIn wsL_voices (va_wsS RL 208 yL_accounts wsL_accounts) := goodIn_app (goodIn_of _ (by decide +kernel)) ggL_voices_L_accounts
set_option maxRecDepth 20000 in
theorem ggL_voices_L_refused : GoodIn wsL_voices wsL_refused := goodIn_ca (goodIn_ca (goodIn_ca (goodIn_r _ [430, 431, 432, 224, 433, 434, 435, 436, 437, 438, 4, 439, 6, 7, 440, 441, 442, 443, 8, 444, 445, 446, 447, 448, 186, 449, 403, 404, 405, 406, 407, 416, 417, 418, 419, 412, 420, 421, 422, 423, 414, 424, 425, 426, 427, 415, 43, 44, 45, 46, 47, 10, 11, 12, 13, 14, 15, 16, 17, 18, 19, 20, 21, 22, 23, 24, 25, 26, 27, 28, 48, 49, 50, 51, 37, 385, 386, 387, 388, 389, 450, 451, 452, 453, 454, 39, 40, 41, 42, 455, 456, 457, 458, 459, 460, 461, 462, 463, 464, 465, 204, 205, 206, 113, 390, 391, 392, 393, 394, 395, 396, 397, 398, 399, 466, 467, 468, 469, 187, 188, 189, 190, 191, 192, 158, 159, 68, 160, 70, 293, 294, 295, 296, 230, 232, 233, 234, 235, 236, 237, 238, 239, 240, 94, 95, 96, 241, 167, 168, 59, 169, 62, 170, 61, 242, 243, 244, 245, 246, 247, 248, 249, 250, 251, 252, 253, 254, 255, 256, 199, 200, 201, 90, 91, 202, 203, 207, 208, 209, 119, 210, 121, 122, 124, 125, 211, 212, 213, 214, 257, 216, 217, 218, 176, 219, 177, 220, 221, 258, 146, 147, 148, 259, 260, 261, 262, 263, 264, 265, 266, 267, 268, 269, 270, 271, 272, 273, 274, 275, 276, 277, 278, 279, 280, 281, 282, 283, 284, 285, 286, 287, 288, 289, 297, 179, 180, 181, 133, 298, 299, 300, 301, 302, 303, 304, 305, 319, 320, 321, 322, 323, 197, 324, 325, 326, 327, 328, 329, 330, 331, 332, 333, 334, 75, 335, 336, 337, 338, 339, 340, 341, 342, 110, 470, 471, 472, 473, 318, 193, 194, 195, 196, 161, 162, 163, 63, 64, 474, 475, 476, 477, 478, 479, 480, 481, 482, 483, 484, 485, 486, 487, 80, 488, 489, 490, 491, 492, 493, 494, 495, 496, 497, 498, 499, 500, 501, 502, 503, 504, 505, 506, 507, 508, 509, 510, 511, 164, 165, 512, 513, 514, 515, 76, 77, 78, 79, 81, 82, 83, 84, 85, 86, 87, 88, 89, 92, 93, 97, 98, 99, 100, 101, 102, 103, 104, 105, 106, 107, 108, 109, 111, 112, 114, 115, 116, 117, 118, 120, 123, 126, 127, 128, 129, 130, 131, 132, 134, 135, 136, 516, 517, 518, 519, 520, 521, 522, 523, 524, 525, 526, 527, 528, 529, 530, 531, 532, 533, 534, 535, 536, 537, 538, 539, 540, 541, 542, 377, 543, 544, 545, 546, 547, 548, 549, 550, 551, 552, 553, 554, 555, 556, 557, 558, 559, 560, 561, 562, 563, 564, 565, 566, 38, 567, 568, 569, 570, 571, 572, 573, 574, 575, 576, 577, 578, 579, 580, 581, 582, 583, 584, 585, 586, 587, 588, 589, 590, 591, 592, 593, 594, 595, 596, 597, 598, 599, 52, 53, 54, 55, 56, 57, 58, 60, 65, 66, 67, 69, 71, 72, 73, 74, 137, 138, 139, 140, 141, 142, 143, 144, 145, 149, 150, 151, 152, 153, 154, 155, 156, 157, 166, 171, 172, 173, 174, 175, 178, 348, 349, 350, 351, 352, 353, 354, 355, 356, 357, 358, 359, 360, 361, 362, 363, 364, 365, 366, 367, 368, 369, 370, 371, 372, 373, 374, 375, 376, 378, 379, 600, 601, 602, 1, 2, 3, 5, 9, 380, 381, 382, 383, 384, 603, 604, 605, 606, 607, 608, 609, 610, 611, 612, 613, 614, 615, 306, 307, 308, 309, 310, 311, 312, 313, 314, 315, 316, 317, 226, 227, 228, 229, 231, 616, 617, 618, 619, 620, 621, 622, 623, 624, 625, 626, 627, 628, 629, 630, 631, 182, 183, 184, 185, 198, 215, 632, 633, 634, 635, 636, 637, 638, 639, 640, 641, 642, 643, 644, 645, 646, 647, 648, 649, 650, 651, 652, 653, 654, 655, 656, 657, 658, 659, 660, 661, 662, 663, 664, 665, 666, 667, 668, 669, 670, 671, 672, 673, 674, 675, 676, 677, 678, 679, 680, 681, 682, 683, 684, 685, 686, 687, 688, 689, 690, 691, 692, 693, 694, 695, 696, 697, 698, 699, 700, 701, 702, 703, 704, 705, 706, 707, 708, 709, 710, 711, 712, 713, 714, 715, 716, 717, 718, 719, 720, 721, 722, 723, 724, 725, 726, 727, 728, 729, 730, 731, 732, 733, 734, 735, 736, 737, 738, 739, 740, 741, 742, 743, 744, 745, 746, 747, 748, 749, 750, 751, 752, 753, 754, 755, 756, 757, 758, 759, 760, 761, 762, 763, 764, 765, 766, 767, 768, 769, 770, 771, 772, 773, 774, 775, 776, 777, 778, 779, 780, 781, 782, 783, 784, 785, 786, 787, 788, 789, 790, 791, 792, 793, 794, 795, 796, 797, 798, 799, 800, 801, 802, 803, 804, 805, 806, 807, 808, 809, 810, 811, 812, 813, 814, 815, 816, 817, 818, 819, 820, 821, 822, 823, 824, 825, 826, 827, 828, 829, 830, 831, 832, 833, 834, 835, 836, 837, 838, 889, 890, 891, 892, 893, 894, 895, 896, 897, 898, 899, 900, 901, 902, 903, 904, 905, 906, 907, 908, 909, 910, 911, 912, 913, 914, 915, 916, 917, 918, 919, 920, 921, 922, 923, 924, 925, 926, 931, 932, 933, 934, 935, 927, 928, 929, 930, 936, 937, 938, 939, 940, 941] rfl (by decide +kernel)) (goodIn_sub (fun _ h => List.mem_cons_of_mem _ (List.mem_append_left _ (List.mem_append_left _ (List.mem_append_right _ h)))) (by decide +kernel))) (goodIn_sub (fun _ h => List.mem_cons_of_mem _ (List.mem_append_left _ (List.mem_append_right _ h))) (by decide +kernel))) (goodIn_sub (fun _ h => List.mem_cons_of_mem _ (List.mem_append_right _ h)) (by decide +kernel))
set_option maxRecDepth 20000 in
theorem gL_voices_L_refused : GoodIn wsL_voices (va_wsS RL 218 yL_refused wsL_refused) := goodIn_app (goodIn_of _ (by decide +kernel)) ggL_voices_L_refused
set_option maxRecDepth 20000 in
theorem ggL_voices_X6_restoreSnapshot : GoodIn wsL_voices wsX6_restoreSnapshot := goodIn_ca (goodIn_ca (goodIn_ca (goodIn_r _ [833, 834, 6, 835, 7, 20, 21, 4, 22, 23, 24, 25, 26, 27, 28, 76, 77, 78, 79, 80, 81, 82, 83, 84, 85, 86, 87, 88, 59, 89, 61, 90, 91, 62, 92, 93, 94, 95, 96, 97, 98, 99, 100, 101, 102, 103, 104, 17, 105, 19, 106, 107, 108, 109, 110, 37, 111, 112, 42, 113, 114, 115, 116, 117, 118, 119, 120, 121, 122, 123, 124, 125, 126, 127, 128, 68, 129, 70, 75, 130, 131, 132, 133, 134, 135, 136, 889, 890, 891, 892, 893, 894, 895, 896, 897, 898, 899, 900, 901, 902, 903, 904, 905, 906, 907, 908, 909, 910, 911, 912, 913, 914, 915, 916, 917, 918, 927, 928, 929, 930, 919, 920, 921, 922, 923, 924, 925, 926] rfl (by decide +kernel)) (goodIn_sub (fun _ h => List.mem_cons_of_mem _ (List.mem_append_left _ (List.mem_append_left _ (List.mem_append_right _ h)))) (by decide +kernel))) (goodIn_sub (fun _ h => List.mem_cons_of_mem _ (List.mem_append_left _ (List.mem_append_right _ h))) (by decide +kernel))) (goodIn_sub (fun _ h => List.mem_cons_of_mem _ (List.mem_append_right _ h)) (by decide +kernel))
set_option maxRecDepth 20000 in
theorem gL_voices_X6_restoreSnapshot : GoodIn wsL_voices (wsV RL 148 RX6 yX6_restoreSnapshot wsX6_restoreSnapshot) := goodIn_app (goodIn_of _ (by decide +kernel)) ggL_voices_X6_restoreSnapshot
set_option maxRecDepth 20000 in
theorem ggL_voices_X6_feasts : GoodIn wsL_voices wsX6_feasts := goodIn_r _ [448, 6, 186, 449, 889, 890, 891, 892, 893, 894, 895, 896, 897, 898, 899, 900, 901, 902, 903, 904, 905, 906, 919, 920, 921, 922, 923, 924, 925, 926] rfl (by decide +kernel)
set_option maxRecDepth 20000 in
theorem gL_voices_X6_feasts : GoodIn wsL_voices (wsV RL 161 RX6 yX6_feasts wsX6_feasts) := goodIn_app (goodIn_of _ (by decide +kernel)) ggL_voices_X6_feasts
set_option maxRecDepth 20000 in
theorem ggL_voices_X6_recordedStates : GoodIn wsL_voices wsX6_recordedStates := goodIn_r _ [487, 80, 889, 890, 891, 892, 893, 894, 895, 896] rfl (by decide +kernel)
set_option maxRecDepth 20000 in
theorem gL_voices_X6_recordedStates : GoodIn wsL_voices (wsV RL 197 RX6 yX6_recordedStates wsX6_recordedStates) := goodIn_app (goodIn_of _ (by decide +kernel)) ggL_voices_X6_recordedStates
set_option maxRecDepth 20000 in
theorem ggL_voices_X6_undo : GoodIn wsL_voices wsX6_undo := goodIn_ca (goodIn_ca (goodIn_ca (goodIn_r _ [829, 80, 6, 81, 20, 21, 4, 22, 23, 24, 25, 26, 27, 28, 86, 87, 88, 59, 89, 61, 90, 91, 62, 92, 93, 94, 95, 96, 97, 98, 99, 100, 101, 102, 103, 104, 17, 105, 19, 106, 107, 108, 109, 110, 37, 111, 112, 42, 113, 114, 115, 116, 117, 118, 119, 120, 121, 122, 123, 124, 125, 126, 127, 128, 68, 129, 70, 75, 130, 131, 132, 133, 134, 135, 136, 889, 890, 891, 892, 893, 894, 895, 896, 897, 898, 899, 900, 901, 902, 903, 904, 905, 906, 907, 908, 909, 910, 911, 912, 913, 914, 915, 916, 917, 918, 927, 928, 929, 930, 919, 920, 921, 922, 923, 924, 925, 926] rfl (by decide +kernel)) (goodIn_sub (fun _ h => List.mem_cons_of_mem _ (List.mem_append_left _ (List.mem_append_left _ (List.mem_append_right _ h)))) (by decide +kernel))) (goodIn_sub (fun _ h => List.mem_cons_of_mem _ (List.mem_append_left _ (List.mem_append_right _ h))) (by decide +kernel))) (goodIn_sub (fun _ h => List.mem_cons_of_mem _ (List.mem_append_right _ h)) (by decide +kernel))
set_option maxRecDepth 20000 in
theorem gL_voices_X6_undo : GoodIn wsL_voices (wsV RL 145 RX6 yX6_undo wsX6_undo) := goodIn_app (goodIn_of _ (by decide +kernel)) ggL_voices_X6_undo
set_option maxRecDepth 20000 in
theorem ggL_voices_X6_day : GoodIn wsL_voices wsX6_day := goodIn_r _ [439, 6, 7, 889, 890, 891, 892, 893, 894, 895, 896, 897, 898, 899, 900, 901, 902, 903, 904, 905, 906] rfl (by decide +kernel)
set_option maxRecDepth 20000 in
theorem gL_voices_X6_day : GoodIn wsL_voices (wsV RL 155 RX6 yX6_day wsX6_day) := goodIn_app (goodIn_of _ (by decide +kernel)) ggL_voices_X6_day
set_option maxRecDepth 20000 in
theorem ggL_voices_L_turns : GoodIn wsL_voices wsL_turns := goodIn_ca (goodIn_ca (goodIn_ca (goodIn_r _ [841, 842, 843, 4, 844, 845, 846, 847, 848, 849, 850, 851, 59, 6, 803, 835, 834, 81, 80, 852, 853, 643, 639, 854, 855, 235, 230, 856, 857, 858, 61, 859, 860, 17, 90, 861, 862, 119, 91, 863, 864, 68, 62, 865, 92, 97, 98, 99, 100, 101, 866, 867, 868, 19, 106, 108, 109, 110, 37, 111, 112, 42, 113, 114, 115, 869, 870, 871, 121, 122, 124, 125, 872, 873, 874, 70, 75, 131, 132, 875, 133, 134, 135, 136, 876, 877, 878, 879, 650, 645, 659, 668, 670, 669, 880, 881, 882, 239, 250, 247, 263, 329, 501, 502, 503, 504, 505, 506, 507, 508, 63, 64, 509, 510, 163, 511, 164, 165, 512, 513, 514, 515, 20, 21, 22, 23, 24, 25, 26, 27, 28, 76, 77, 78, 79, 82, 83, 84, 85, 86, 87, 88, 89, 93, 94, 95, 96, 102, 103, 104, 105, 107, 116, 117, 118, 120, 123, 126, 127, 128, 129, 130, 516, 517, 518, 519, 520, 521, 522, 523, 524, 525, 52, 53, 54, 55, 56, 57, 58, 60, 65, 66, 67, 69, 71, 72, 73, 74, 137, 138, 139, 140, 141, 142, 143, 144, 145, 146, 147, 148, 149, 150, 151, 152, 153, 154, 155, 156, 157, 158, 159, 160, 161, 162, 166, 167, 168, 169, 170, 171, 172, 173, 174, 175, 176, 177, 178, 179, 180, 181, 319, 320, 321, 322, 186, 323, 188, 189, 190, 191, 192, 197, 324, 325, 326, 327, 248, 328, 240, 237, 330, 255, 331, 332, 333, 334, 242, 243, 244, 245, 246, 249, 251, 252, 253, 254, 256, 199, 200, 201, 202, 39, 40, 41, 203, 204, 205, 206, 207, 208, 209, 210, 211, 212, 213, 214, 257, 216, 217, 218, 219, 220, 221, 49, 50, 51, 258, 259, 260, 261, 262, 264, 265, 266, 267, 268, 269, 270, 271, 272, 273, 274, 275, 276, 277, 278, 279, 280, 281, 282, 283, 284, 285, 286, 287, 288, 289, 335, 336, 337, 338, 339, 340, 341, 342, 293, 294, 295, 296, 232, 233, 234, 236, 238, 241, 297, 298, 299, 300, 301, 302, 303, 304, 305, 883, 884, 224, 885, 616, 617, 618, 619, 8, 10, 11, 12, 13, 14, 15, 16, 18, 620, 621, 622, 623, 624, 625, 626, 627, 628, 629, 630, 631, 348, 349, 350, 351, 352, 353, 354, 355, 356, 357, 358, 359, 360, 361, 362, 363, 364, 365, 366, 367, 368, 369, 370, 371, 372, 373, 374, 375, 376, 377, 378, 379, 395, 396, 397, 398, 399, 400, 401, 402, 403, 404, 405, 406, 407, 408, 409, 410, 411, 412, 413, 414, 415, 416, 417, 418, 419, 420, 421, 422, 423, 424, 425, 426, 427, 550, 551, 552, 553, 554, 555, 556, 557, 558, 559, 560, 561, 562, 543, 563, 564, 565, 566, 38, 314, 315, 316, 317, 318, 310, 311, 312, 313, 889, 890, 891, 892, 893, 894, 895, 896, 897, 898, 899, 900, 901, 902, 903, 904, 905, 906, 936, 937, 938, 939, 940, 941, 931, 932, 933, 934, 935, 907, 908, 909, 910, 911, 912, 913, 914, 915, 916, 917, 918, 927, 928, 929, 930, 919, 920, 921, 922, 923, 924, 925, 926] rfl (by decide +kernel)) (goodIn_sub (fun _ h => List.mem_cons_of_mem _ (List.mem_append_left _ (List.mem_append_left _ (List.mem_append_right _ h)))) (by decide +kernel))) (goodIn_sub (fun _ h => List.mem_cons_of_mem _ (List.mem_append_left _ (List.mem_append_right _ h))) (by decide +kernel))) (goodIn_sub (fun _ h => List.mem_cons_of_mem _ (List.mem_append_right _ h)) (by decide +kernel))
set_option maxRecDepth 20000 in
theorem gL_voices_L_turns : GoodIn wsL_voices (va_wsS RL 237 yL_turns wsL_turns) := goodIn_app (goodIn_of _ (by decide +kernel)) ggL_voices_L_turns
set_option maxRecDepth 20000 in
theorem ggL_voices_L_limits : GoodIn wsL_voices wsL_limits := goodIn_ca (goodIn_ca (goodIn_ca (goodIn_r _ [888, 842, 843, 4, 844, 845, 846, 847, 848, 849, 850, 851, 59, 6, 803, 835, 834, 81, 80, 852, 853, 643, 639, 854, 855, 235, 230, 856, 857, 858, 61, 859, 860, 17, 90, 861, 862, 119, 91, 863, 864, 68, 62, 865, 92, 97, 98, 99, 100, 101, 866, 867, 868, 19, 106, 108, 109, 110, 37, 111, 112, 42, 113, 114, 115, 869, 870, 871, 121, 122, 124, 125, 872, 873, 874, 70, 75, 131, 132, 875, 133, 134, 135, 136, 876, 877, 878, 879, 650, 645, 659, 668, 670, 669, 880, 881, 882, 239, 250, 247, 263, 329, 530, 531, 532, 533, 534, 535, 536, 537, 63, 64, 509, 510, 163, 511, 164, 165, 512, 513, 514, 515, 20, 21, 22, 23, 24, 25, 26, 27, 28, 76, 77, 78, 79, 82, 83, 84, 85, 86, 87, 88, 89, 93, 94, 95, 96, 102, 103, 104, 105, 107, 116, 117, 118, 120, 123, 126, 127, 128, 129, 130, 538, 539, 540, 541, 542, 377, 543, 521, 522, 523, 524, 525, 479, 480, 481, 482, 483, 526, 527, 224, 528, 529, 499, 500, 501, 502, 503, 504, 505, 506, 507, 508, 516, 517, 518, 519, 520, 385, 386, 387, 388, 8, 389, 10, 11, 12, 13, 14, 15, 16, 18, 567, 568, 569, 570, 571, 572, 573, 574, 558, 202, 39, 40, 41, 203, 204, 205, 206, 575, 576, 577, 578, 579, 496, 497, 498, 580, 581, 582, 583, 584, 585, 586, 587, 588, 589, 590, 591, 207, 208, 209, 210, 592, 593, 594, 595, 596, 597, 598, 599, 544, 545, 546, 547, 548, 549, 550, 551, 552, 553, 554, 555, 556, 557, 559, 560, 561, 562, 563, 564, 565, 566, 38, 52, 53, 54, 55, 56, 57, 58, 60, 65, 66, 67, 69, 71, 72, 73, 74, 137, 138, 139, 140, 141, 142, 143, 144, 145, 146, 147, 148, 149, 150, 151, 152, 153, 154, 155, 156, 157, 158, 159, 160, 161, 162, 166, 167, 168, 169, 170, 171, 172, 173, 174, 175, 176, 177, 178, 179, 180, 181, 348, 349, 350, 351, 352, 353, 354, 355, 356, 357, 358, 359, 360, 332, 333, 334, 361, 243, 244, 245, 237, 246, 240, 248, 249, 251, 252, 253, 254, 255, 256, 199, 200, 201, 211, 212, 213, 214, 257, 216, 217, 218, 219, 220, 221, 49, 50, 51, 258, 259, 260, 261, 262, 264, 265, 266, 267, 268, 269, 270, 271, 272, 273, 274, 275, 276, 277, 278, 279, 280, 281, 282, 283, 284, 285, 286, 287, 288, 289, 362, 363, 364, 365, 366, 367, 368, 369, 370, 371, 372, 336, 337, 338, 339, 340, 341, 342, 373, 374, 375, 376, 378, 379, 299, 300, 301, 302, 303, 304, 305, 600, 601, 602, 450, 451, 452, 453, 7, 454, 1, 2, 3, 5, 9, 43, 44, 45, 46, 47, 48, 380, 381, 382, 383, 384, 455, 456, 457, 458, 459, 460, 461, 462, 463, 464, 465, 603, 604, 605, 606, 607, 608, 390, 391, 392, 393, 394, 395, 396, 397, 398, 399, 609, 610, 611, 466, 467, 468, 469, 186, 187, 188, 189, 190, 191, 192, 612, 613, 614, 615, 197, 293, 294, 295, 296, 232, 233, 234, 236, 238, 241, 242, 297, 298, 306, 307, 308, 309, 310, 311, 312, 313, 314, 315, 316, 317, 318, 319, 320, 321, 322, 323, 324, 325, 326, 327, 328, 330, 331, 335, 226, 227, 228, 229, 231, 470, 471, 472, 473, 193, 194, 195, 196, 474, 475, 476, 477, 478, 616, 617, 618, 619, 620, 621, 622, 623, 624, 625, 626, 627, 628, 629, 630, 631, 182, 183, 184, 185, 198, 215, 632, 633, 634, 635, 636, 637, 638, 640, 641, 642, 644, 646, 647, 648, 649, 651, 652, 653, 654, 655, 656, 657, 658, 660, 661, 662, 663, 664, 665, 666, 667, 671, 672, 673, 674, 675, 676, 677, 678, 679, 680, 681, 682, 683, 684, 685, 686, 687, 688, 689, 690, 691, 692, 693, 694, 695, 696, 697, 698, 699, 700, 701, 702, 703, 704, 705, 706, 707, 708, 709, 710, 711, 712, 713, 714, 715, 716, 717, 718, 719, 720, 721, 722, 723, 724, 725, 726, 727, 728, 729, 730, 731, 732, 733, 734, 735, 736, 737, 738, 739, 740, 741, 742, 743, 744, 745, 746, 747, 748, 749, 750, 751, 752, 753, 754, 755, 756, 757, 758, 759, 760, 761, 762, 763, 764, 765, 766, 767, 768, 769, 770, 771, 772, 773, 774, 775, 776, 777, 778, 779, 780, 781, 782, 783, 784, 785, 786, 787, 788, 789, 790, 791, 792, 793, 794, 795, 796, 797, 798, 799, 800, 801, 802, 804, 805, 806, 807, 808, 809, 810, 811, 812, 813, 814, 815, 816, 817, 818, 819, 820, 821, 822, 823, 824, 825, 826, 827, 828, 829, 830, 831, 832, 833, 436, 437, 438, 439, 400, 401, 402, 403, 404, 405, 406, 407, 408, 409, 410, 411, 412, 413, 414, 415, 416, 417, 418, 419, 420, 421, 422, 423, 424, 425, 426, 427, 428, 429, 430, 431, 432, 433, 434, 435, 440, 441, 442, 443, 444, 445, 446, 447, 448, 449, 484, 485, 486, 487, 488, 489, 490, 491, 492, 493, 494, 495, 836, 837, 838, 889, 890, 891, 892, 893, 894, 895, 896, 897, 898, 899, 900, 901, 902, 903, 904, 905, 906, 936, 937, 938, 939, 940, 941, 931, 932, 933, 934, 935, 907, 908, 909, 910, 911, 912, 913, 914, 915, 916, 917, 918, 927, 928, 929, 930, 919, 920, 921, 922, 923, 924, 925, 926] rfl (by decide +kernel)) (goodIn_sub (fun _ h => List.mem_cons_of_mem _ (List.mem_append_left _ (List.mem_append_left _ (List.mem_append_right _ h)))) (by decide +kernel))) (goodIn_sub (fun _ h => List.mem_cons_of_mem _ (List.mem_append_left _ (List.mem_append_right _ h))) (by decide +kernel))) (goodIn_sub (fun _ h => List.mem_cons_of_mem _ (List.mem_append_right _ h)) (by decide +kernel))
set_option maxRecDepth 20000 in
theorem gL_voices_L_limits : GoodIn wsL_voices (va_wsS RL 241 yL_limits wsL_limits) := goodIn_app (goodIn_of _ (by decide +kernel)) ggL_voices_L_limits
theorem dL_voices_0 : decode cL_voices 0 = .ok (.aload_n 0, 1) := by decide +kernel
theorem dL_voices_1 : decode cL_voices 1 = .ok (.iconst 0, 1) := by decide +kernel
theorem dL_voices_2 : decode cL_voices 2 = .ok (.invokevirtual 67, 3) := by decide +kernel
theorem dL_voices_5 : decode cL_voices 5 = .ok (.bipush 12, 2) := by decide +kernel
theorem dL_voices_7 : decode cL_voices 7 = .ok (.if_icmp .ne 210, 3) := by decide +kernel
theorem dL_voices_10 : decode cL_voices 10 = .ok (.aload_n 0, 1) := by decide +kernel
theorem dL_voices_11 : decode cL_voices 11 = .ok (.invokevirtual 212, 3) := by decide +kernel
theorem dL_voices_14 : decode cL_voices 14 = .ok (.ifCond .ne 203, 3) := by decide +kernel
theorem dL_voices_17 : decode cL_voices 17 = .ok (.aload_n 0, 1) := by decide +kernel
theorem dL_voices_18 : decode cL_voices 18 = .ok (.iconst 0, 1) := by decide +kernel
theorem dL_voices_19 : decode cL_voices 19 = .ok (.invokevirtual 70, 3) := by decide +kernel
theorem dL_voices_22 : decode cL_voices 22 = .ok (.bipush 10, 2) := by decide +kernel
theorem dL_voices_24 : decode cL_voices 24 = .ok (.if_icmp .ne 193, 3) := by decide +kernel
theorem dL_voices_27 : decode cL_voices 27 = .ok (.aload_n 0, 1) := by decide +kernel
theorem dL_voices_28 : decode cL_voices 28 = .ok (.sipush 1080, 3) := by decide +kernel
theorem dL_voices_31 : decode cL_voices 31 = .ok (.iconst 1, 1) := by decide +kernel
theorem dL_voices_32 : decode cL_voices 32 = .ok (.invokevirtual 53, 3) := by decide +kernel
theorem dL_voices_35 : decode cL_voices 35 = .ok (.iconst 2, 1) := by decide +kernel
theorem dL_voices_36 : decode cL_voices 36 = .ok (.if_icmp .ne 181, 3) := by decide +kernel
theorem dL_voices_39 : decode cL_voices 39 = .ok (.aload_n 0, 1) := by decide +kernel
theorem dL_voices_40 : decode cL_voices 40 = .ok (.sipush 1169, 3) := by decide +kernel
theorem dL_voices_43 : decode cL_voices 43 = .ok (.iconst 1, 1) := by decide +kernel
theorem dL_voices_44 : decode cL_voices 44 = .ok (.invokevirtual 53, 3) := by decide +kernel
theorem dL_voices_47 : decode cL_voices 47 = .ok (.iconst 3, 1) := by decide +kernel
theorem dL_voices_48 : decode cL_voices 48 = .ok (.if_icmp .ne 169, 3) := by decide +kernel
theorem dL_voices_51 : decode cL_voices 51 = .ok (.aload_n 0, 1) := by decide +kernel
theorem dL_voices_52 : decode cL_voices 52 = .ok (.sipush 1170, 3) := by decide +kernel
theorem dL_voices_55 : decode cL_voices 55 = .ok (.iconst 1, 1) := by decide +kernel
theorem dL_voices_56 : decode cL_voices 56 = .ok (.invokevirtual 53, 3) := by decide +kernel
theorem dL_voices_59 : decode cL_voices 59 = .ok (.iconst 4, 1) := by decide +kernel
theorem dL_voices_60 : decode cL_voices 60 = .ok (.if_icmp .ne 157, 3) := by decide +kernel
theorem dL_voices_63 : decode cL_voices 63 = .ok (.aload_n 0, 1) := by decide +kernel
theorem dL_voices_64 : decode cL_voices 64 = .ok (.iconst 2, 1) := by decide +kernel
theorem dL_voices_65 : decode cL_voices 65 = .ok (.iconst 0, 1) := by decide +kernel
theorem dL_voices_66 : decode cL_voices 66 = .ok (.iconst 1, 1) := by decide +kernel
theorem dL_voices_67 : decode cL_voices 67 = .ok (.bipush 12, 2) := by decide +kernel
theorem dL_voices_69 : decode cL_voices 69 = .ok (.bipush 20, 2) := by decide +kernel
theorem dL_voices_71 : decode cL_voices 71 = .ok (.invokevirtual 57, 3) := by decide +kernel
theorem dL_voices_74 : decode cL_voices 74 = .ok (.iconst 1, 1) := by decide +kernel
theorem dL_voices_75 : decode cL_voices 75 = .ok (.if_icmp .ne 142, 3) := by decide +kernel
theorem dL_voices_78 : decode cL_voices 78 = .ok (.aload_n 0, 1) := by decide +kernel
theorem dL_voices_79 : decode cL_voices 79 = .ok (.iconst 3, 1) := by decide +kernel
theorem dL_voices_80 : decode cL_voices 80 = .ok (.iconst 0, 1) := by decide +kernel
theorem dL_voices_81 : decode cL_voices 81 = .ok (.iconst 1, 1) := by decide +kernel
theorem dL_voices_82 : decode cL_voices 82 = .ok (.bipush 12, 2) := by decide +kernel
theorem dL_voices_84 : decode cL_voices 84 = .ok (.bipush 20, 2) := by decide +kernel
theorem dL_voices_86 : decode cL_voices 86 = .ok (.invokevirtual 57, 3) := by decide +kernel
theorem dL_voices_89 : decode cL_voices 89 = .ok (.iconst 1, 1) := by decide +kernel
theorem dL_voices_90 : decode cL_voices 90 = .ok (.if_icmp .ne 127, 3) := by decide +kernel
theorem dL_voices_93 : decode cL_voices 93 = .ok (.aload_n 0, 1) := by decide +kernel
theorem dL_voices_94 : decode cL_voices 94 = .ok (.iconst 4, 1) := by decide +kernel
theorem dL_voices_95 : decode cL_voices 95 = .ok (.iconst 0, 1) := by decide +kernel
theorem dL_voices_96 : decode cL_voices 96 = .ok (.iconst 1, 1) := by decide +kernel
theorem dL_voices_97 : decode cL_voices 97 = .ok (.iconst 0, 1) := by decide +kernel
theorem dL_voices_98 : decode cL_voices 98 = .ok (.bipush 18, 2) := by decide +kernel
theorem dL_voices_100 : decode cL_voices 100 = .ok (.invokevirtual 57, 3) := by decide +kernel
theorem dL_voices_103 : decode cL_voices 103 = .ok (.iconst 1, 1) := by decide +kernel
theorem dL_voices_104 : decode cL_voices 104 = .ok (.if_icmp .ne 113, 3) := by decide +kernel
theorem dL_voices_107 : decode cL_voices 107 = .ok (.aload_n 0, 1) := by decide +kernel
theorem dL_voices_108 : decode cL_voices 108 = .ok (.iconst 4, 1) := by decide +kernel
theorem dL_voices_109 : decode cL_voices 109 = .ok (.iconst 1, 1) := by decide +kernel
theorem dL_voices_110 : decode cL_voices 110 = .ok (.iconst 1, 1) := by decide +kernel
theorem dL_voices_111 : decode cL_voices 111 = .ok (.iconst 0, 1) := by decide +kernel
theorem dL_voices_112 : decode cL_voices 112 = .ok (.bipush 19, 2) := by decide +kernel
theorem dL_voices_114 : decode cL_voices 114 = .ok (.invokevirtual 57, 3) := by decide +kernel
theorem dL_voices_117 : decode cL_voices 117 = .ok (.iconst 2, 1) := by decide +kernel
theorem dL_voices_118 : decode cL_voices 118 = .ok (.if_icmp .ne 99, 3) := by decide +kernel
theorem dL_voices_121 : decode cL_voices 121 = .ok (.aload_n 0, 1) := by decide +kernel
theorem dL_voices_122 : decode cL_voices 122 = .ok (.iconst 2, 1) := by decide +kernel
theorem dL_voices_123 : decode cL_voices 123 = .ok (.iconst 0, 1) := by decide +kernel
theorem dL_voices_124 : decode cL_voices 124 = .ok (.iconst 0, 1) := by decide +kernel
theorem dL_voices_125 : decode cL_voices 125 = .ok (.invokevirtual 131, 3) := by decide +kernel
theorem dL_voices_128 : decode cL_voices 128 = .ok (.iconst 4, 1) := by decide +kernel
theorem dL_voices_129 : decode cL_voices 129 = .ok (.if_icmp .ne 88, 3) := by decide +kernel
theorem dL_voices_132 : decode cL_voices 132 = .ok (.aload_n 0, 1) := by decide +kernel
theorem dL_voices_133 : decode cL_voices 133 = .ok (.iconst 3, 1) := by decide +kernel
theorem dL_voices_134 : decode cL_voices 134 = .ok (.iconst 0, 1) := by decide +kernel
theorem dL_voices_135 : decode cL_voices 135 = .ok (.iconst 0, 1) := by decide +kernel
theorem dL_voices_136 : decode cL_voices 136 = .ok (.invokevirtual 131, 3) := by decide +kernel
theorem dL_voices_139 : decode cL_voices 139 = .ok (.iconst 4, 1) := by decide +kernel
theorem dL_voices_140 : decode cL_voices 140 = .ok (.if_icmp .ne 77, 3) := by decide +kernel
theorem dL_voices_143 : decode cL_voices 143 = .ok (.aload_n 0, 1) := by decide +kernel
theorem dL_voices_144 : decode cL_voices 144 = .ok (.iconst 4, 1) := by decide +kernel
theorem dL_voices_145 : decode cL_voices 145 = .ok (.iconst 0, 1) := by decide +kernel
theorem dL_voices_146 : decode cL_voices 146 = .ok (.iconst 0, 1) := by decide +kernel
theorem dL_voices_147 : decode cL_voices 147 = .ok (.invokevirtual 131, 3) := by decide +kernel
theorem dL_voices_150 : decode cL_voices 150 = .ok (.ifCond .ne 67, 3) := by decide +kernel
theorem dL_voices_153 : decode cL_voices 153 = .ok (.aload_n 0, 1) := by decide +kernel
theorem dL_voices_154 : decode cL_voices 154 = .ok (.iconst 4, 1) := by decide +kernel
theorem dL_voices_155 : decode cL_voices 155 = .ok (.iconst 0, 1) := by decide +kernel
theorem dL_voices_156 : decode cL_voices 156 = .ok (.iconst 1, 1) := by decide +kernel
theorem dL_voices_157 : decode cL_voices 157 = .ok (.invokevirtual 131, 3) := by decide +kernel
theorem dL_voices_160 : decode cL_voices 160 = .ok (.bipush 6, 2) := by decide +kernel
theorem dL_voices_162 : decode cL_voices 162 = .ok (.if_icmp .ne 55, 3) := by decide +kernel
theorem dL_voices_165 : decode cL_voices 165 = .ok (.aload_n 0, 1) := by decide +kernel
theorem dL_voices_166 : decode cL_voices 166 = .ok (.iconst 4, 1) := by decide +kernel
theorem dL_voices_167 : decode cL_voices 167 = .ok (.iconst 1, 1) := by decide +kernel
theorem dL_voices_168 : decode cL_voices 168 = .ok (.iconst 0, 1) := by decide +kernel
theorem dL_voices_169 : decode cL_voices 169 = .ok (.invokevirtual 131, 3) := by decide +kernel
theorem dL_voices_172 : decode cL_voices 172 = .ok (.iconst 5, 1) := by decide +kernel
theorem dL_voices_173 : decode cL_voices 173 = .ok (.if_icmp .ne 44, 3) := by decide +kernel
theorem dL_voices_176 : decode cL_voices 176 = .ok (.aload_n 0, 1) := by decide +kernel
theorem dL_voices_177 : decode cL_voices 177 = .ok (.iconst 2, 1) := by decide +kernel
theorem dL_voices_178 : decode cL_voices 178 = .ok (.iconst (-1), 1) := by decide +kernel
theorem dL_voices_179 : decode cL_voices 179 = .ok (.iconst 0, 1) := by decide +kernel
theorem dL_voices_180 : decode cL_voices 180 = .ok (.iconst (-1), 1) := by decide +kernel
theorem dL_voices_181 : decode cL_voices 181 = .ok (.invokestatic 222, 3) := by decide +kernel
theorem dL_voices_184 : decode cL_voices 184 = .ok (.ifCond .eq 33, 3) := by decide +kernel
theorem dL_voices_187 : decode cL_voices 187 = .ok (.aload_n 0, 1) := by decide +kernel
theorem dL_voices_188 : decode cL_voices 188 = .ok (.iconst 4, 1) := by decide +kernel
theorem dL_voices_189 : decode cL_voices 189 = .ok (.iconst 0, 1) := by decide +kernel
theorem dL_voices_190 : decode cL_voices 190 = .ok (.iconst (-1), 1) := by decide +kernel
theorem dL_voices_191 : decode cL_voices 191 = .ok (.iconst (-1), 1) := by decide +kernel
theorem dL_voices_192 : decode cL_voices 192 = .ok (.invokestatic 222, 3) := by decide +kernel
theorem dL_voices_195 : decode cL_voices 195 = .ok (.ifCond .eq 22, 3) := by decide +kernel
theorem dL_voices_198 : decode cL_voices 198 = .ok (.aload_n 0, 1) := by decide +kernel
theorem dL_voices_199 : decode cL_voices 199 = .ok (.iconst 4, 1) := by decide +kernel
theorem dL_voices_200 : decode cL_voices 200 = .ok (.iconst 1, 1) := by decide +kernel
theorem dL_voices_201 : decode cL_voices 201 = .ok (.iconst 1, 1) := by decide +kernel
theorem dL_voices_202 : decode cL_voices 202 = .ok (.iconst 0, 1) := by decide +kernel
theorem dL_voices_203 : decode cL_voices 203 = .ok (.invokestatic 225, 3) := by decide +kernel
theorem dL_voices_206 : decode cL_voices 206 = .ok (.ifCond .eq 11, 3) := by decide +kernel
theorem dL_voices_209 : decode cL_voices 209 = .ok (.aload_n 0, 1) := by decide +kernel
theorem dL_voices_210 : decode cL_voices 210 = .ok (.invokevirtual 215, 3) := by decide +kernel
theorem dL_voices_213 : decode cL_voices 213 = .ok (.iconst 4, 1) := by decide +kernel
theorem dL_voices_214 : decode cL_voices 214 = .ok (.if_icmp .eq 5, 3) := by decide +kernel
theorem dL_voices_217 : decode cL_voices 217 = .ok (.iconst 0, 1) := by decide +kernel
theorem dL_voices_218 : decode cL_voices 218 = .ok (.ireturn, 1) := by decide +kernel
theorem dL_voices_219 : decode cL_voices 219 = .ok (.aload_n 0, 1) := by decide +kernel
theorem dL_voices_220 : decode cL_voices 220 = .ok (.iconst 1, 1) := by decide +kernel
theorem dL_voices_221 : decode cL_voices 221 = .ok (.invokevirtual 60, 3) := by decide +kernel
theorem dL_voices_224 : decode cL_voices 224 = .ok (.iconst 1, 1) := by decide +kernel
theorem dL_voices_225 : decode cL_voices 225 = .ok (.if_icmp .ne 146, 3) := by decide +kernel
theorem dL_voices_228 : decode cL_voices 228 = .ok (.aload_n 0, 1) := by decide +kernel
theorem dL_voices_229 : decode cL_voices 229 = .ok (.iconst 0, 1) := by decide +kernel
theorem dL_voices_230 : decode cL_voices 230 = .ok (.invokevirtual 67, 3) := by decide +kernel
theorem dL_voices_233 : decode cL_voices 233 = .ok (.bipush 13, 2) := by decide +kernel
theorem dL_voices_235 : decode cL_voices 235 = .ok (.if_icmp .ne 136, 3) := by decide +kernel
theorem dL_voices_238 : decode cL_voices 238 = .ok (.aload_n 0, 1) := by decide +kernel
theorem dL_voices_239 : decode cL_voices 239 = .ok (.invokevirtual 212, 3) := by decide +kernel
theorem dL_voices_242 : decode cL_voices 242 = .ok (.iconst (-1), 1) := by decide +kernel
theorem dL_voices_243 : decode cL_voices 243 = .ok (.if_icmp .ne 128, 3) := by decide +kernel
theorem dL_voices_246 : decode cL_voices 246 = .ok (.aload_n 0, 1) := by decide +kernel
theorem dL_voices_247 : decode cL_voices 247 = .ok (.iconst 0, 1) := by decide +kernel
theorem dL_voices_248 : decode cL_voices 248 = .ok (.invokevirtual 70, 3) := by decide +kernel
theorem dL_voices_251 : decode cL_voices 251 = .ok (.bipush 10, 2) := by decide +kernel
theorem dL_voices_253 : decode cL_voices 253 = .ok (.if_icmp .ne 118, 3) := by decide +kernel
theorem dL_voices_256 : decode cL_voices 256 = .ok (.aload_n 0, 1) := by decide +kernel
theorem dL_voices_257 : decode cL_voices 257 = .ok (.iconst 0, 1) := by decide +kernel
theorem dL_voices_258 : decode cL_voices 258 = .ok (.invokevirtual 73, 3) := by decide +kernel
theorem dL_voices_261 : decode cL_voices 261 = .ok (.bipush 30, 2) := by decide +kernel
theorem dL_voices_263 : decode cL_voices 263 = .ok (.if_icmp .ne 108, 3) := by decide +kernel
theorem dL_voices_266 : decode cL_voices 266 = .ok (.aload_n 0, 1) := by decide +kernel
theorem dL_voices_267 : decode cL_voices 267 = .ok (.bipush 89, 2) := by decide +kernel
theorem dL_voices_269 : decode cL_voices 269 = .ok (.invokevirtual 60, 3) := by decide +kernel
theorem dL_voices_272 : decode cL_voices 272 = .ok (.iconst 1, 1) := by decide +kernel
theorem dL_voices_273 : decode cL_voices 273 = .ok (.if_icmp .ne 98, 3) := by decide +kernel
theorem dL_voices_276 : decode cL_voices 276 = .ok (.aload_n 0, 1) := by decide +kernel
theorem dL_voices_277 : decode cL_voices 277 = .ok (.iconst 0, 1) := by decide +kernel
theorem dL_voices_278 : decode cL_voices 278 = .ok (.invokevirtual 70, 3) := by decide +kernel
theorem dL_voices_281 : decode cL_voices 281 = .ok (.bipush 10, 2) := by decide +kernel
theorem dL_voices_283 : decode cL_voices 283 = .ok (.if_icmp .ne 88, 3) := by decide +kernel
theorem dL_voices_286 : decode cL_voices 286 = .ok (.aload_n 0, 1) := by decide +kernel
theorem dL_voices_287 : decode cL_voices 287 = .ok (.iconst 1, 1) := by decide +kernel
theorem dL_voices_288 : decode cL_voices 288 = .ok (.invokevirtual 60, 3) := by decide +kernel
theorem dL_voices_291 : decode cL_voices 291 = .ok (.iconst 1, 1) := by decide +kernel
theorem dL_voices_292 : decode cL_voices 292 = .ok (.if_icmp .ne 79, 3) := by decide +kernel
theorem dL_voices_295 : decode cL_voices 295 = .ok (.aload_n 0, 1) := by decide +kernel
theorem dL_voices_296 : decode cL_voices 296 = .ok (.iconst 0, 1) := by decide +kernel
theorem dL_voices_297 : decode cL_voices 297 = .ok (.invokevirtual 70, 3) := by decide +kernel
theorem dL_voices_300 : decode cL_voices 300 = .ok (.ifCond .ne 71, 3) := by decide +kernel
theorem dL_voices_303 : decode cL_voices 303 = .ok (.aload_n 0, 1) := by decide +kernel
theorem dL_voices_304 : decode cL_voices 304 = .ok (.iconst 0, 1) := by decide +kernel
theorem dL_voices_305 : decode cL_voices 305 = .ok (.invokevirtual 73, 3) := by decide +kernel
theorem dL_voices_308 : decode cL_voices 308 = .ok (.bipush 18, 2) := by decide +kernel
theorem dL_voices_310 : decode cL_voices 310 = .ok (.if_icmp .ne 61, 3) := by decide +kernel
theorem dL_voices_313 : decode cL_voices 313 = .ok (.aload_n 0, 1) := by decide +kernel
theorem dL_voices_314 : decode cL_voices 314 = .ok (.iconst 0, 1) := by decide +kernel
theorem dL_voices_315 : decode cL_voices 315 = .ok (.invokevirtual 76, 3) := by decide +kernel
theorem dL_voices_318 : decode cL_voices 318 = .ok (.sipush 1080, 3) := by decide +kernel
theorem dL_voices_321 : decode cL_voices 321 = .ok (.if_icmp .ne 50, 3) := by decide +kernel
theorem dL_voices_324 : decode cL_voices 324 = .ok (.aload_n 0, 1) := by decide +kernel
theorem dL_voices_325 : decode cL_voices 325 = .ok (.iconst 1, 1) := by decide +kernel
theorem dL_voices_326 : decode cL_voices 326 = .ok (.invokevirtual 89, 3) := by decide +kernel
theorem dL_voices_329 : decode cL_voices 329 = .ok (.iconst 2, 1) := by decide +kernel
theorem dL_voices_330 : decode cL_voices 330 = .ok (.if_icmp .ne 41, 3) := by decide +kernel
theorem dL_voices_333 : decode cL_voices 333 = .ok (.aload_n 0, 1) := by decide +kernel
theorem dL_voices_334 : decode cL_voices 334 = .ok (.iconst 1, 1) := by decide +kernel
theorem dL_voices_335 : decode cL_voices 335 = .ok (.invokevirtual 92, 3) := by decide +kernel
theorem dL_voices_338 : decode cL_voices 338 = .ok (.iconst 2, 1) := by decide +kernel
theorem dL_voices_339 : decode cL_voices 339 = .ok (.if_icmp .ne 32, 3) := by decide +kernel
theorem dL_voices_342 : decode cL_voices 342 = .ok (.aload_n 0, 1) := by decide +kernel
theorem dL_voices_343 : decode cL_voices 343 = .ok (.iconst 0, 1) := by decide +kernel
theorem dL_voices_344 : decode cL_voices 344 = .ok (.invokevirtual 92, 3) := by decide +kernel
theorem dL_voices_347 : decode cL_voices 347 = .ok (.iconst 1, 1) := by decide +kernel
theorem dL_voices_348 : decode cL_voices 348 = .ok (.if_icmp .ne 23, 3) := by decide +kernel
theorem dL_voices_351 : decode cL_voices 351 = .ok (.aload_n 0, 1) := by decide +kernel
theorem dL_voices_352 : decode cL_voices 352 = .ok (.bipush 82, 2) := by decide +kernel
theorem dL_voices_354 : decode cL_voices 354 = .ok (.iconst 5, 1) := by decide +kernel
theorem dL_voices_355 : decode cL_voices 355 = .ok (.iconst 4, 1) := by decide +kernel
theorem dL_voices_356 : decode cL_voices 356 = .ok (.bipush 9, 2) := by decide +kernel
theorem dL_voices_358 : decode cL_voices 358 = .ok (.invokestatic 208, 3) := by decide +kernel
theorem dL_voices_361 : decode cL_voices 361 = .ok (.ifCond .eq 10, 3) := by decide +kernel
theorem dL_voices_364 : decode cL_voices 364 = .ok (.aload_n 0, 1) := by decide +kernel
theorem dL_voices_365 : decode cL_voices 365 = .ok (.invokestatic 218, 3) := by decide +kernel
theorem dL_voices_368 : decode cL_voices 368 = .ok (.ifCond .ne 5, 3) := by decide +kernel
theorem dL_voices_371 : decode cL_voices 371 = .ok (.iconst 0, 1) := by decide +kernel
theorem dL_voices_372 : decode cL_voices 372 = .ok (.ireturn, 1) := by decide +kernel
theorem dL_voices_373 : decode cL_voices 373 = .ok (.aload_n 0, 1) := by decide +kernel
theorem dL_voices_374 : decode cL_voices 374 = .ok (.invokevirtual 148, 3) := by decide +kernel
theorem dL_voices_377 : decode cL_voices 377 = .ok (.ifCond .ne 76, 3) := by decide +kernel
theorem dL_voices_380 : decode cL_voices 380 = .ok (.aload_n 0, 1) := by decide +kernel
theorem dL_voices_381 : decode cL_voices 381 = .ok (.bipush 90, 2) := by decide +kernel
theorem dL_voices_383 : decode cL_voices 383 = .ok (.iconst 0, 1) := by decide +kernel
theorem dL_voices_384 : decode cL_voices 384 = .ok (.iconst 0, 1) := by decide +kernel
theorem dL_voices_385 : decode cL_voices 385 = .ok (.iconst 0, 1) := by decide +kernel
theorem dL_voices_386 : decode cL_voices 386 = .ok (.invokestatic 208, 3) := by decide +kernel
theorem dL_voices_389 : decode cL_voices 389 = .ok (.ifCond .eq 64, 3) := by decide +kernel
theorem dL_voices_392 : decode cL_voices 392 = .ok (.aload_n 0, 1) := by decide +kernel
theorem dL_voices_393 : decode cL_voices 393 = .ok (.iconst 0, 1) := by decide +kernel
theorem dL_voices_394 : decode cL_voices 394 = .ok (.iconst 4, 1) := by decide +kernel
theorem dL_voices_395 : decode cL_voices 395 = .ok (.iconst 0, 1) := by decide +kernel
theorem dL_voices_396 : decode cL_voices 396 = .ok (.iconst 2, 1) := by decide +kernel
theorem dL_voices_397 : decode cL_voices 397 = .ok (.invokestatic 225, 3) := by decide +kernel
theorem dL_voices_400 : decode cL_voices 400 = .ok (.ifCond .eq 53, 3) := by decide +kernel
theorem dL_voices_403 : decode cL_voices 403 = .ok (.aload_n 0, 1) := by decide +kernel
theorem dL_voices_404 : decode cL_voices 404 = .ok (.invokevirtual 161, 3) := by decide +kernel
theorem dL_voices_407 : decode cL_voices 407 = .ok (.iconst 2, 1) := by decide +kernel
theorem dL_voices_408 : decode cL_voices 408 = .ok (.if_icmp .ne 45, 3) := by decide +kernel
theorem dL_voices_411 : decode cL_voices 411 = .ok (.aload_n 0, 1) := by decide +kernel
theorem dL_voices_412 : decode cL_voices 412 = .ok (.invokevirtual 197, 3) := by decide +kernel
theorem dL_voices_415 : decode cL_voices 415 = .ok (.iconst 4, 1) := by decide +kernel
theorem dL_voices_416 : decode cL_voices 416 = .ok (.if_icmp .ne 37, 3) := by decide +kernel
theorem dL_voices_419 : decode cL_voices 419 = .ok (.aload_n 0, 1) := by decide +kernel
theorem dL_voices_420 : decode cL_voices 420 = .ok (.invokevirtual 145, 3) := by decide +kernel
theorem dL_voices_423 : decode cL_voices 423 = .ok (.iconst 3, 1) := by decide +kernel
theorem dL_voices_424 : decode cL_voices 424 = .ok (.if_icmp .ne 29, 3) := by decide +kernel
theorem dL_voices_427 : decode cL_voices 427 = .ok (.aload_n 0, 1) := by decide +kernel
theorem dL_voices_428 : decode cL_voices 428 = .ok (.invokevirtual 155, 3) := by decide +kernel
theorem dL_voices_431 : decode cL_voices 431 = .ok (.sipush 1170, 3) := by decide +kernel
theorem dL_voices_434 : decode cL_voices 434 = .ok (.if_icmp .ne 19, 3) := by decide +kernel
theorem dL_voices_437 : decode cL_voices 437 = .ok (.invokestatic 237, 3) := by decide +kernel
theorem dL_voices_440 : decode cL_voices 440 = .ok (.ifCond .eq 13, 3) := by decide +kernel
theorem dL_voices_443 : decode cL_voices 443 = .ok (.invokestatic 241, 3) := by decide +kernel
theorem dL_voices_446 : decode cL_voices 446 = .ok (.ifCond .eq 7, 3) := by decide +kernel
theorem dL_voices_449 : decode cL_voices 449 = .ok (.iconst 1, 1) := by decide +kernel
theorem dL_voices_450 : decode cL_voices 450 = .ok (.goto 4, 3) := by decide +kernel
theorem dL_voices_453 : decode cL_voices 453 = .ok (.iconst 0, 1) := by decide +kernel
theorem dL_voices_454 : decode cL_voices 454 = .ok (.ireturn, 1) := by decide +kernel
set_option maxRecDepth 20000 in
theorem ggL_turns_X6_init : GoodIn wsL_turns wsX6_init := goodIn_r _ [6, 7, 8, 9, 10, 11, 12, 13, 14, 15, 16, 17, 18, 19, 20, 21, 22, 23, 24, 25, 26, 27, 28, 29, 30, 31, 32, 33, 34, 35, 36, 37, 38, 39, 40, 41, 42, 43, 44, 45, 46, 47, 48, 49, 50, 51, 52, 53, 54, 55, 56, 57, 58, 59, 60, 61, 62, 63, 64, 65, 66, 67, 68, 69, 70, 71, 72, 73, 74, 75, 76, 77, 78, 79, 80, 81, 82, 83, 84, 85, 86, 87, 88, 89, 90, 91, 92, 93, 94, 95, 96, 97, 98, 99, 100, 101, 484, 485, 486, 487, 488, 489, 490, 491, 492, 493, 476, 477, 478, 479, 480, 481, 482, 483, 494, 495, 496, 497, 498, 499, 500, 501, 502, 503, 504, 505, 506, 507, 508, 509, 510, 511, 512, 513, 514, 515, 516, 517, 518, 519, 520, 521, 522, 523, 524, 525, 526, 527, 528] rfl (by decide +kernel)
set_option maxRecDepth 20000 in
theorem gL_turns_X6_init : GoodIn wsL_turns (wsX6_init) := ggL_turns_X6_init
set_option maxRecDepth 20000 in
theorem ggL_turns_X6_register : GoodIn wsL_turns wsX6_register := goodIn_ca (goodIn_ca (goodIn_ca (goodIn_r _ [105, 13, 106, 107, 108, 12, 109, 34, 110, 3, 111, 112, 113, 114, 115, 116, 117, 118, 119, 120, 33, 121, 53, 122, 123, 124, 125, 126, 127, 128, 129, 130, 131, 132, 133, 134, 18, 17, 135, 136, 137, 138, 139, 140, 141, 142, 30, 38, 42, 44, 143, 144, 145, 146, 45, 46, 47, 48, 49, 147, 148, 149, 150, 54, 151, 55, 56, 57, 58, 59, 60, 61, 62, 63, 64, 152, 153, 154, 37, 155, 68, 69, 156, 70, 71, 157, 158, 159, 41, 160, 75, 76, 161, 77, 78, 80, 81, 82, 83, 162, 163, 164, 165, 166, 167, 168, 169, 170, 171, 476, 477, 478, 479, 480, 481, 482, 483, 484, 485, 486, 487, 488, 489, 490, 491, 492, 493, 505, 506, 507, 508, 509, 510, 511, 512, 513, 514, 515, 516, 517, 518, 519, 520, 521, 522, 523, 524, 525, 526, 527, 528] rfl (by decide +kernel)) (goodIn_sub (fun _ h => List.mem_cons_of_mem _ (List.mem_append_left _ (List.mem_append_left _ (List.mem_append_right _ h)))) (by decide +kernel))) (goodIn_sub (fun _ h => List.mem_cons_of_mem _ (List.mem_append_left _ (List.mem_append_right _ h))) (by decide +kernel))) (goodIn_sub (fun _ h => List.mem_cons_of_mem _ (List.mem_append_right _ h)) (by decide +kernel))
set_option maxRecDepth 20000 in
theorem gL_turns_X6_register : GoodIn wsL_turns (wsV RL 32 RX6 yX6_register wsX6_register) := goodIn_app (goodIn_of _ (by decide +kernel)) ggL_turns_X6_register
set_option maxRecDepth 20000 in
theorem ggL_turns_X6_announce : GoodIn wsL_turns wsX6_announce := goodIn_ca (goodIn_ca (goodIn_ca (goodIn_r _ [175, 13, 176, 177, 178, 12, 179, 30, 42, 110, 3, 111, 180, 181, 182, 41, 183, 75, 184, 185, 186, 187, 76, 122, 123, 124, 125, 126, 127, 128, 129, 130, 131, 132, 133, 134, 18, 17, 135, 136, 137, 138, 139, 140, 141, 142, 34, 38, 44, 143, 144, 145, 146, 45, 46, 47, 48, 49, 147, 148, 149, 33, 150, 53, 54, 151, 55, 56, 57, 58, 59, 60, 61, 62, 63, 64, 152, 153, 154, 37, 155, 68, 69, 156, 70, 71, 157, 158, 159, 160, 161, 77, 78, 80, 81, 82, 83, 188, 189, 190, 191, 192, 193, 194, 195, 196, 197, 198, 199, 476, 477, 478, 479, 480, 481, 482, 483, 484, 485, 486, 487, 488, 489, 490, 491, 492, 493, 521, 522, 523, 524, 525, 526, 527, 528, 505, 506, 507, 508, 509, 510, 511, 512, 513, 514, 515, 516, 517, 518, 519, 520] rfl (by decide +kernel)) (goodIn_sub (fun _ h => List.mem_cons_of_mem _ (List.mem_append_left _ (List.mem_append_left _ (List.mem_append_right _ h)))) (by decide +kernel))) (goodIn_sub (fun _ h => List.mem_cons_of_mem _ (List.mem_append_left _ (List.mem_append_right _ h))) (by decide +kernel))) (goodIn_sub (fun _ h => List.mem_cons_of_mem _ (List.mem_append_right _ h)) (by decide +kernel))
set_option maxRecDepth 20000 in
theorem gL_turns_X6_announce : GoodIn wsL_turns (wsV RL 53 RX6 yX6_announce wsX6_announce) := goodIn_app (goodIn_of _ (by decide +kernel)) ggL_turns_X6_announce
set_option maxRecDepth 20000 in
theorem ggL_turns_X6_setLine : GoodIn wsL_turns wsX6_setLine := goodIn_ca (goodIn_ca (goodIn_ca (goodIn_r _ [203, 13, 204, 205, 206, 12, 207, 42, 208, 209, 210, 41, 211, 75, 212, 3, 213, 114, 110, 111, 116, 117, 214, 215, 216, 217, 218, 30, 122, 123, 124, 125, 126, 127, 128, 129, 130, 131, 132, 133, 134, 18, 17, 135, 136, 137, 138, 139, 140, 141, 142, 34, 38, 44, 143, 144, 145, 146, 45, 46, 47, 48, 49, 147, 148, 149, 33, 150, 53, 54, 151, 55, 56, 57, 58, 59, 60, 61, 62, 63, 64, 152, 153, 154, 37, 155, 68, 69, 156, 70, 71, 157, 158, 159, 160, 76, 161, 77, 78, 80, 81, 82, 83, 219, 220, 221, 222, 223, 224, 225, 226, 227, 228, 229, 476, 477, 478, 479, 480, 481, 482, 483, 484, 485, 486, 487, 488, 489, 490, 491, 492, 493, 521, 522, 523, 524, 525, 526, 527, 528, 505, 506, 507, 508, 509, 510, 511, 512, 513, 514, 515, 516, 517, 518, 519, 520] rfl (by decide +kernel)) (goodIn_sub (fun _ h => List.mem_cons_of_mem _ (List.mem_append_left _ (List.mem_append_left _ (List.mem_append_right _ h)))) (by decide +kernel))) (goodIn_sub (fun _ h => List.mem_cons_of_mem _ (List.mem_append_left _ (List.mem_append_right _ h))) (by decide +kernel))) (goodIn_sub (fun _ h => List.mem_cons_of_mem _ (List.mem_append_right _ h)) (by decide +kernel))
set_option maxRecDepth 20000 in
theorem gL_turns_X6_setLine : GoodIn wsL_turns (wsV RL 57 RX6 yX6_setLine wsX6_setLine) := goodIn_app (goodIn_of _ (by decide +kernel)) ggL_turns_X6_setLine
set_option maxRecDepth 20000 in
theorem ggL_turns_X6_descantIn : GoodIn wsL_turns wsX6_descantIn := goodIn_ca (goodIn_ca (goodIn_ca (goodIn_r _ [233, 13, 234, 235, 26, 236, 237, 238, 3, 239, 240, 209, 210, 41, 211, 75, 122, 123, 124, 125, 126, 127, 128, 129, 130, 241, 215, 216, 12, 217, 42, 218, 30, 242, 243, 244, 25, 245, 246, 247, 101, 248, 144, 145, 146, 249, 250, 251, 252, 253, 254, 255, 76, 256, 257, 258, 259, 97, 260, 99, 261, 98, 262, 263, 264, 265, 266, 267, 268, 269, 34, 38, 270, 271, 272, 33, 273, 61, 274, 275, 276, 277, 62, 278, 279, 280, 37, 281, 68, 69, 70, 71, 282, 283, 284, 285, 58, 286, 287, 288, 289, 224, 290, 225, 291, 292, 293, 294, 295, 296, 197, 198, 199, 297, 298, 299, 300, 100, 301, 302, 303, 304, 305, 306, 307, 308, 309, 310, 311, 312, 313, 314, 315, 316, 317, 318, 319, 320, 321, 322, 323, 324, 325, 326, 327, 328, 329, 330, 331, 332, 333, 334, 57, 476, 477, 478, 479, 480, 481, 482, 483, 484, 485, 486, 487, 488, 489, 490, 491, 492, 493, 521, 522, 523, 524, 525, 526, 527, 528, 505, 506, 507, 508, 509, 510, 511, 512, 513, 514, 515, 516, 500, 501, 502, 503, 504, 517, 518, 519, 520] rfl (by decide +kernel)) (goodIn_sub (fun _ h => List.mem_cons_of_mem _ (List.mem_append_left _ (List.mem_append_left _ (List.mem_append_right _ h)))) (by decide +kernel))) (goodIn_sub (fun _ h => List.mem_cons_of_mem _ (List.mem_append_left _ (List.mem_append_right _ h))) (by decide +kernel))) (goodIn_sub (fun _ h => List.mem_cons_of_mem _ (List.mem_append_right _ h)) (by decide +kernel))
set_option maxRecDepth 20000 in
theorem gL_turns_X6_descantIn : GoodIn wsL_turns (wsV RL 113 RX6 yX6_descantIn wsX6_descantIn) := goodIn_app (goodIn_of _ (by decide +kernel)) ggL_turns_X6_descantIn
set_option maxRecDepth 20000 in
theorem ggL_turns_X6_shortfall : GoodIn wsL_turns wsX6_shortfall := goodIn_ca (goodIn_ca (goodIn_ca (goodIn_r _ [338, 26, 13, 234, 236, 237, 238, 3, 239, 240, 209, 210, 41, 211, 75, 122, 123, 124, 125, 126, 127, 128, 129, 130, 339, 340, 341, 25, 342, 249, 343, 97, 248, 144, 145, 146, 344, 215, 216, 12, 217, 42, 218, 30, 256, 257, 258, 259, 260, 99, 246, 261, 98, 262, 263, 264, 265, 251, 266, 267, 268, 269, 34, 38, 270, 271, 272, 33, 273, 61, 274, 275, 276, 277, 62, 278, 279, 280, 37, 281, 68, 69, 70, 71, 282, 283, 284, 285, 58, 286, 287, 288, 289, 224, 290, 225, 291, 292, 293, 294, 295, 296, 197, 198, 199, 297, 298, 299, 300, 100, 301, 302, 303, 304, 305, 306, 307, 308, 309, 310, 311, 312, 313, 314, 315, 316, 317, 318, 319, 320, 321, 322, 323, 324, 325, 326, 345, 227, 228, 229, 80, 346, 347, 348, 349, 350, 351, 352, 353, 476, 477, 478, 479, 480, 481, 482, 483, 484, 485, 486, 487, 488, 489, 490, 491, 492, 493, 521, 522, 523, 524, 525, 526, 527, 528, 500, 501, 502, 503, 504, 505, 506, 507, 508, 509, 510, 511, 512, 513, 514, 515, 516, 517, 518, 519, 520] rfl (by decide +kernel)) (goodIn_sub (fun _ h => List.mem_cons_of_mem _ (List.mem_append_left _ (List.mem_append_left _ (List.mem_append_right _ h)))) (by decide +kernel))) (goodIn_sub (fun _ h => List.mem_cons_of_mem _ (List.mem_append_left _ (List.mem_append_right _ h))) (by decide +kernel))) (goodIn_sub (fun _ h => List.mem_cons_of_mem _ (List.mem_append_right _ h)) (by decide +kernel))
set_option maxRecDepth 20000 in
theorem gL_turns_X6_shortfall : GoodIn wsL_turns (wsV RL 104 RX6 yX6_shortfall wsX6_shortfall) := goodIn_app (goodIn_of _ (by decide +kernel)) ggL_turns_X6_shortfall
set_option maxRecDepth 20000 in
theorem ggL_turns_L_sits : GoodIn wsL_turns wsL_sits := goodIn_ca (goodIn_ca (goodIn_ca (goodIn_r _ [357, 358, 359, 360, 3, 361, 26, 13, 362, 236, 237, 238, 239, 234, 240, 209, 210, 41, 211, 75, 122, 123, 124, 125, 126, 127, 128, 129, 130, 363, 364, 365, 366, 367, 368, 369, 33, 370, 53, 339, 340, 341, 25, 342, 249, 343, 97, 248, 144, 145, 146, 344, 215, 216, 12, 217, 42, 218, 30, 256, 257, 258, 259, 260, 99, 246, 261, 98, 262, 263, 264, 265, 251, 266, 267, 268, 269, 34, 38, 270, 271, 272, 273, 61, 274, 275, 276, 277, 62, 278, 279, 280, 37, 281, 68, 69, 70, 71, 282, 283, 284, 285, 58, 286, 287, 288, 289, 224, 290, 225, 291, 292, 293, 294, 295, 296, 197, 198, 199, 297, 298, 299, 300, 100, 301, 302, 303, 304, 305, 306, 307, 308, 309, 310, 311, 312, 313, 314, 315, 316, 317, 318, 319, 320, 321, 322, 323, 324, 325, 326, 371, 372, 373, 374, 375, 376, 377, 378, 54, 379, 380, 381, 382, 476, 477, 478, 479, 480, 481, 482, 483, 484, 485, 486, 487, 488, 489, 490, 491, 492, 493, 521, 522, 523, 524, 525, 526, 527, 528, 505, 506, 507, 508, 509, 510, 511, 512, 513, 514, 515, 516, 500, 501, 502, 503, 504, 517, 518, 519, 520] rfl (by decide +kernel)) (goodIn_sub (fun _ h => List.mem_cons_of_mem _ (List.mem_append_left _ (List.mem_append_left _ (List.mem_append_right _ h)))) (by decide +kernel))) (goodIn_sub (fun _ h => List.mem_cons_of_mem _ (List.mem_append_left _ (List.mem_append_right _ h))) (by decide +kernel))) (goodIn_sub (fun _ h => List.mem_cons_of_mem _ (List.mem_append_right _ h)) (by decide +kernel))
set_option maxRecDepth 20000 in
theorem gL_turns_L_sits : GoodIn wsL_turns (va_wsS RL 228 yL_sits wsL_sits) := goodIn_app (goodIn_of _ (by decide +kernel)) ggL_turns_L_sits
set_option maxRecDepth 20000 in
theorem ggL_turns_X6_passDays : GoodIn wsL_turns wsX6_passDays := goodIn_ca (goodIn_ca (goodIn_ca (goodIn_r _ [386, 13, 26, 387, 388, 389, 12, 390, 30, 110, 3, 111, 122, 123, 124, 125, 126, 127, 128, 129, 130, 131, 132, 133, 134, 18, 17, 135, 136, 137, 138, 139, 140, 141, 142, 34, 38, 42, 44, 143, 144, 145, 146, 45, 46, 47, 48, 49, 147, 148, 149, 33, 150, 53, 54, 151, 55, 56, 57, 58, 59, 60, 61, 62, 63, 64, 152, 153, 154, 37, 155, 68, 69, 156, 70, 71, 157, 158, 159, 41, 160, 75, 76, 161, 77, 78, 80, 81, 82, 83, 391, 392, 393, 394, 218, 395, 253, 254, 255, 396, 257, 258, 25, 259, 97, 249, 260, 99, 248, 246, 261, 98, 262, 263, 264, 265, 251, 266, 267, 268, 269, 270, 271, 272, 273, 274, 275, 276, 277, 278, 279, 280, 281, 282, 283, 284, 285, 286, 287, 288, 289, 224, 290, 225, 291, 292, 293, 294, 295, 296, 197, 198, 199, 297, 298, 299, 300, 100, 301, 302, 303, 304, 305, 306, 307, 308, 309, 310, 311, 312, 313, 314, 315, 316, 317, 318, 319, 320, 321, 322, 323, 324, 325, 326, 397, 398, 399, 400, 401, 402, 403, 404, 405, 406, 407, 328, 329, 330, 331, 332, 333, 334, 408, 409, 410, 411, 412, 413, 414, 347, 348, 349, 350, 351, 352, 353, 226, 227, 228, 229, 476, 477, 478, 479, 480, 481, 482, 483, 484, 485, 486, 487, 488, 489, 490, 491, 492, 493, 505, 506, 507, 508, 509, 510, 511, 512, 513, 514, 515, 516, 517, 518, 519, 520, 521, 522, 523, 524, 525, 526, 527, 528, 500, 501, 502, 503, 504] rfl (by decide +kernel)) (goodIn_sub (fun _ h => List.mem_cons_of_mem _ (List.mem_append_left _ (List.mem_append_left _ (List.mem_append_right _ h)))) (by decide +kernel))) (goodIn_sub (fun _ h => List.mem_cons_of_mem _ (List.mem_append_left _ (List.mem_append_right _ h))) (by decide +kernel))) (goodIn_sub (fun _ h => List.mem_cons_of_mem _ (List.mem_append_right _ h)) (by decide +kernel))
set_option maxRecDepth 20000 in
theorem gL_turns_X6_passDays : GoodIn wsL_turns (wsV RL 60 RX6 yX6_passDays wsX6_passDays) := goodIn_app (goodIn_of _ (by decide +kernel)) ggL_turns_X6_passDays
set_option maxRecDepth 20000 in
theorem ggL_turns_X6_descantsOf : GoodIn wsL_turns wsX6_descantsOf := goodIn_ca (goodIn_ca (goodIn_ca (goodIn_r _ [418, 13, 362, 419, 363, 364, 365, 3, 366, 367, 368, 369, 33, 370, 53, 122, 123, 124, 125, 126, 127, 128, 129, 130, 476, 477, 478, 479, 480, 481, 482, 483, 484, 485, 486, 487, 488, 489, 490, 491, 492, 493, 505, 506, 507, 508, 509, 510, 511, 512, 513, 514, 515, 516] rfl (by decide +kernel)) (goodIn_sub (fun _ h => List.mem_cons_of_mem _ (List.mem_append_left _ (List.mem_append_left _ (List.mem_append_right _ h)))) (by decide +kernel))) (goodIn_sub (fun _ h => List.mem_cons_of_mem _ (List.mem_append_left _ (List.mem_append_right _ h))) (by decide +kernel))) (goodIn_sub (fun _ h => List.mem_cons_of_mem _ (List.mem_append_right _ h)) (by decide +kernel))
set_option maxRecDepth 20000 in
theorem gL_turns_X6_descantsOf : GoodIn wsL_turns (wsV RL 92 RX6 yX6_descantsOf wsX6_descantsOf) := goodIn_app (goodIn_of _ (by decide +kernel)) ggL_turns_X6_descantsOf
set_option maxRecDepth 20000 in
theorem ggL_turns_L_accounts : GoodIn wsL_turns wsL_accounts := goodIn_r _ [422, 423, 424, 425, 3, 426, 13, 427, 428, 429, 430, 431, 432, 433, 434, 435, 436, 437, 438, 439, 440, 441, 442, 443, 444, 445, 446, 447, 476, 477, 478, 479, 480, 481, 482, 483, 484, 485, 486, 487, 488, 489, 490, 491, 492, 493] rfl (by decide +kernel)
set_option maxRecDepth 20000 in
theorem gL_turns_L_accounts : GoodIn wsL_turns (va_wsS RL 208 yL_accounts wsL_accounts) := goodIn_app (goodIn_of _ (by decide +kernel)) ggL_turns_L_accounts
set_option maxRecDepth 20000 in
theorem ggL_turns_X6_leave : GoodIn wsL_turns wsX6_leave := goodIn_ca (goodIn_ca (goodIn_ca (goodIn_r _ [451, 13, 452, 453, 454, 12, 455, 34, 30, 456, 368, 369, 33, 370, 53, 270, 271, 272, 273, 61, 122, 123, 3, 124, 125, 126, 127, 128, 129, 130, 131, 132, 133, 134, 18, 17, 135, 136, 137, 138, 139, 140, 141, 142, 38, 42, 44, 143, 144, 145, 146, 45, 46, 47, 48, 49, 147, 148, 149, 150, 54, 151, 55, 56, 57, 58, 59, 60, 62, 63, 64, 152, 153, 154, 37, 155, 68, 69, 156, 70, 71, 157, 158, 159, 41, 160, 75, 76, 161, 77, 78, 80, 81, 82, 83, 457, 458, 459, 460, 461, 462, 463, 464, 465, 466, 476, 477, 478, 479, 480, 481, 482, 483, 484, 485, 486, 487, 488, 489, 490, 491, 492, 493, 505, 506, 507, 508, 509, 510, 511, 512, 513, 514, 515, 516, 517, 518, 519, 520, 521, 522, 523, 524, 525, 526, 527, 528] rfl (by decide +kernel)) (goodIn_sub (fun _ h => List.mem_cons_of_mem _ (List.mem_append_left _ (List.mem_append_left _ (List.mem_append_right _ h)))) (by decide +kernel))) (goodIn_sub (fun _ h => List.mem_cons_of_mem _ (List.mem_append_left _ (List.mem_append_right _ h))) (by decide +kernel))) (goodIn_sub (fun _ h => List.mem_cons_of_mem _ (List.mem_append_right _ h)) (by decide +kernel))
set_option maxRecDepth 20000 in
theorem gL_turns_X6_leave : GoodIn wsL_turns (wsV RL 38 RX6 yX6_leave wsX6_leave) := goodIn_app (goodIn_of _ (by decide +kernel)) ggL_turns_X6_leave
set_option maxRecDepth 20000 in
theorem ggL_turns_X6_neededLine : GoodIn wsL_turns wsX6_neededLine := goodIn_ca (goodIn_ca (goodIn_ca (goodIn_r _ [470, 13, 26, 234, 471, 236, 237, 238, 3, 239, 240, 209, 210, 41, 211, 75, 122, 123, 124, 125, 126, 127, 128, 129, 130, 241, 215, 216, 12, 217, 42, 218, 30, 472, 473, 474, 25, 475, 246, 261, 249, 260, 262, 263, 264, 265, 98, 251, 266, 267, 268, 269, 34, 38, 270, 271, 272, 33, 273, 61, 274, 275, 276, 277, 62, 278, 279, 280, 37, 281, 68, 69, 70, 71, 282, 283, 284, 285, 58, 286, 287, 288, 289, 224, 290, 225, 291, 292, 293, 294, 295, 301, 302, 303, 304, 305, 306, 307, 476, 477, 478, 479, 480, 481, 482, 483, 484, 485, 486, 487, 488, 489, 490, 491, 492, 493, 521, 522, 523, 524, 525, 526, 527, 528, 505, 506, 507, 508, 509, 510, 511, 512, 513, 514, 515, 516, 500, 501, 502, 503, 504, 517, 518, 519, 520] rfl (by decide +kernel)) (goodIn_sub (fun _ h => List.mem_cons_of_mem _ (List.mem_append_left _ (List.mem_append_left _ (List.mem_append_right _ h)))) (by decide +kernel))) (goodIn_sub (fun _ h => List.mem_cons_of_mem _ (List.mem_append_left _ (List.mem_append_right _ h))) (by decide +kernel))) (goodIn_sub (fun _ h => List.mem_cons_of_mem _ (List.mem_append_right _ h)) (by decide +kernel))
set_option maxRecDepth 20000 in
theorem gL_turns_X6_neededLine : GoodIn wsL_turns (wsV RL 110 RX6 yX6_neededLine wsX6_neededLine) := goodIn_app (goodIn_of _ (by decide +kernel)) ggL_turns_X6_neededLine
theorem dL_turns_0 : decode cL_turns 0 = .ok (.new 33, 3) := by decide +kernel
theorem dL_turns_3 : decode cL_turns 3 = .ok (.dup, 1) := by decide +kernel
theorem dL_turns_4 : decode cL_turns 4 = .ok (.invokespecial 207, 3) := by decide +kernel
theorem dL_turns_7 : decode cL_turns 7 = .ok (.astore_n 0, 1) := by decide +kernel
theorem dL_turns_8 : decode cL_turns 8 = .ok (.iconst 0, 1) := by decide +kernel
theorem dL_turns_9 : decode cL_turns 9 = .ok (.istore_n 1, 1) := by decide +kernel
theorem dL_turns_10 : decode cL_turns 10 = .ok (.iload_n 1, 1) := by decide +kernel
theorem dL_turns_11 : decode cL_turns 11 = .ok (.iconst 3, 1) := by decide +kernel
theorem dL_turns_12 : decode cL_turns 12 = .ok (.if_icmp .ge 34, 3) := by decide +kernel
theorem dL_turns_15 : decode cL_turns 15 = .ok (.aload_n 0, 1) := by decide +kernel
theorem dL_turns_16 : decode cL_turns 16 = .ok (.bipush 20, 2) := by decide +kernel
theorem dL_turns_18 : decode cL_turns 18 = .ok (.iload_n 1, 1) := by decide +kernel
theorem dL_turns_19 : decode cL_turns 19 = .ok (.iconst 2, 1) := by decide +kernel
theorem dL_turns_20 : decode cL_turns 20 = .ok (.irem, 1) := by decide +kernel
theorem dL_turns_21 : decode cL_turns 21 = .ok (.iadd, 1) := by decide +kernel
theorem dL_turns_22 : decode cL_turns 22 = .ok (.sipush 150, 3) := by decide +kernel
theorem dL_turns_25 : decode cL_turns 25 = .ok (.iload_n 1, 1) := by decide +kernel
theorem dL_turns_26 : decode cL_turns 26 = .ok (.iadd, 1) := by decide +kernel
theorem dL_turns_27 : decode cL_turns 27 = .ok (.iconst 0, 1) := by decide +kernel
theorem dL_turns_28 : decode cL_turns 28 = .ok (.bipush 48, 2) := by decide +kernel
theorem dL_turns_30 : decode cL_turns 30 = .ok (.iconst 0, 1) := by decide +kernel
theorem dL_turns_31 : decode cL_turns 31 = .ok (.invokevirtual 32, 3) := by decide +kernel
theorem dL_turns_34 : decode cL_turns 34 = .ok (.iload_n 1, 1) := by decide +kernel
theorem dL_turns_35 : decode cL_turns 35 = .ok (.if_icmp .eq 5, 3) := by decide +kernel
theorem dL_turns_38 : decode cL_turns 38 = .ok (.iconst 0, 1) := by decide +kernel
theorem dL_turns_39 : decode cL_turns 39 = .ok (.ireturn, 1) := by decide +kernel
theorem dL_turns_40 : decode cL_turns 40 = .ok (.iinc 1 1, 3) := by decide +kernel
theorem dL_turns_43 : decode cL_turns 43 = .ok (.goto (-33), 3) := by decide +kernel
theorem dL_turns_46 : decode cL_turns 46 = .ok (.iconst 0, 1) := by decide +kernel
theorem dL_turns_47 : decode cL_turns 47 = .ok (.istore_n 1, 1) := by decide +kernel
theorem dL_turns_48 : decode cL_turns 48 = .ok (.iload_n 1, 1) := by decide +kernel
theorem dL_turns_49 : decode cL_turns 49 = .ok (.iconst 5, 1) := by decide +kernel
theorem dL_turns_50 : decode cL_turns 50 = .ok (.if_icmp .ge 38, 3) := by decide +kernel
theorem dL_turns_53 : decode cL_turns 53 = .ok (.aload_n 0, 1) := by decide +kernel
theorem dL_turns_54 : decode cL_turns 54 = .ok (.bipush 9, 2) := by decide +kernel
theorem dL_turns_56 : decode cL_turns 56 = .ok (.iload_n 1, 1) := by decide +kernel
theorem dL_turns_57 : decode cL_turns 57 = .ok (.isub, 1) := by decide +kernel
theorem dL_turns_58 : decode cL_turns 58 = .ok (.iconst 1, 1) := by decide +kernel
