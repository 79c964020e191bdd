/-! THE LAW: its bytes, read -/
theorem d_Law_law_634 : decode M_Law_law.2.1 634 = .ok (.if_icmp .eq 668, 3) := by decide +kernel
theorem d_Law_law_637 : decode M_Law_law.2.1 637 = .ok (.iconst 0, 1) := by decide +kernel
theorem d_Law_law_638 : decode M_Law_law.2.1 638 = .ok (.ireturn, 1) := by decide +kernel
theorem d_Law_law_639 : decode M_Law_law.2.1 639 = .ok (.aload_n 1, 1) := by decide +kernel
theorem d_Law_law_640 : decode M_Law_law.2.1 640 = .ok (.aload_n 0, 1) := by decide +kernel
theorem d_Law_law_641 : decode M_Law_law.2.1 641 = .ok (.iload_n 3, 1) := by decide +kernel
theorem d_Law_law_642 : decode M_Law_law.2.1 642 = .ok (.iconst 1, 1) := by decide +kernel
theorem d_Law_law_643 : decode M_Law_law.2.1 643 = .ok (.iadd, 1) := by decide +kernel
theorem d_Law_law_644 : decode M_Law_law.2.1 644 = .ok (.iaload, 1) := by decide +kernel
theorem d_Law_law_645 : decode M_Law_law.2.1 645 = .ok (.aload_n 0, 1) := by decide +kernel
theorem d_Law_law_646 : decode M_Law_law.2.1 646 = .ok (.iload_n 3, 1) := by decide +kernel
theorem d_Law_law_647 : decode M_Law_law.2.1 647 = .ok (.iconst 2, 1) := by decide +kernel
theorem d_Law_law_648 : decode M_Law_law.2.1 648 = .ok (.iadd, 1) := by decide +kernel
theorem d_Law_law_649 : decode M_Law_law.2.1 649 = .ok (.iaload, 1) := by decide +kernel
theorem d_Law_law_650 : decode M_Law_law.2.1 650 = .ok (.aload_n 0, 1) := by decide +kernel
theorem d_Law_law_651 : decode M_Law_law.2.1 651 = .ok (.iload_n 3, 1) := by decide +kernel
theorem d_Law_law_652 : decode M_Law_law.2.1 652 = .ok (.iconst 3, 1) := by decide +kernel
theorem d_Law_law_653 : decode M_Law_law.2.1 653 = .ok (.iadd, 1) := by decide +kernel
theorem d_Law_law_654 : decode M_Law_law.2.1 654 = .ok (.iaload, 1) := by decide +kernel
theorem d_Law_law_655 : decode M_Law_law.2.1 655 = .ok (.aload_n 0, 1) := by decide +kernel
theorem d_Law_law_656 : decode M_Law_law.2.1 656 = .ok (.iload_n 3, 1) := by decide +kernel
theorem d_Law_law_657 : decode M_Law_law.2.1 657 = .ok (.iconst 4, 1) := by decide +kernel
theorem d_Law_law_658 : decode M_Law_law.2.1 658 = .ok (.iadd, 1) := by decide +kernel
theorem d_Law_law_659 : decode M_Law_law.2.1 659 = .ok (.iaload, 1) := by decide +kernel
theorem d_Law_law_660 : decode M_Law_law.2.1 660 = .ok (.aload_n 0, 1) := by decide +kernel
theorem d_Law_law_661 : decode M_Law_law.2.1 661 = .ok (.iload_n 3, 1) := by decide +kernel
theorem d_Law_law_662 : decode M_Law_law.2.1 662 = .ok (.iconst 5, 1) := by decide +kernel
theorem d_Law_law_663 : decode M_Law_law.2.1 663 = .ok (.iadd, 1) := by decide +kernel
theorem d_Law_law_664 : decode M_Law_law.2.1 664 = .ok (.iaload, 1) := by decide +kernel
theorem d_Law_law_665 : decode M_Law_law.2.1 665 = .ok (.invokevirtual 70, 3) := by decide +kernel
theorem d_Law_law_668 : decode M_Law_law.2.1 668 = .ok (.aload_n 2, 1) := by decide +kernel
theorem d_Law_law_669 : decode M_Law_law.2.1 669 = .ok (.aload_n 0, 1) := by decide +kernel
theorem d_Law_law_670 : decode M_Law_law.2.1 670 = .ok (.iload_n 3, 1) := by decide +kernel
theorem d_Law_law_671 : decode M_Law_law.2.1 671 = .ok (.iconst 1, 1) := by decide +kernel
theorem d_Law_law_672 : decode M_Law_law.2.1 672 = .ok (.iadd, 1) := by decide +kernel
theorem d_Law_law_673 : decode M_Law_law.2.1 673 = .ok (.iaload, 1) := by decide +kernel
theorem d_Law_law_674 : decode M_Law_law.2.1 674 = .ok (.aload_n 0, 1) := by decide +kernel
theorem d_Law_law_675 : decode M_Law_law.2.1 675 = .ok (.iload_n 3, 1) := by decide +kernel
theorem d_Law_law_676 : decode M_Law_law.2.1 676 = .ok (.iconst 2, 1) := by decide +kernel
theorem d_Law_law_677 : decode M_Law_law.2.1 677 = .ok (.iadd, 1) := by decide +kernel
theorem d_Law_law_678 : decode M_Law_law.2.1 678 = .ok (.iaload, 1) := by decide +kernel
theorem d_Law_law_679 : decode M_Law_law.2.1 679 = .ok (.aload_n 0, 1) := by decide +kernel
theorem d_Law_law_680 : decode M_Law_law.2.1 680 = .ok (.iload_n 3, 1) := by decide +kernel
theorem d_Law_law_681 : decode M_Law_law.2.1 681 = .ok (.iconst 3, 1) := by decide +kernel
theorem d_Law_law_682 : decode M_Law_law.2.1 682 = .ok (.iadd, 1) := by decide +kernel
theorem d_Law_law_683 : decode M_Law_law.2.1 683 = .ok (.iaload, 1) := by decide +kernel
theorem d_Law_law_684 : decode M_Law_law.2.1 684 = .ok (.aload_n 0, 1) := by decide +kernel
theorem d_Law_law_685 : decode M_Law_law.2.1 685 = .ok (.iload_n 3, 1) := by decide +kernel
theorem d_Law_law_686 : decode M_Law_law.2.1 686 = .ok (.iconst 4, 1) := by decide +kernel
theorem d_Law_law_687 : decode M_Law_law.2.1 687 = .ok (.iadd, 1) := by decide +kernel
theorem d_Law_law_688 : decode M_Law_law.2.1 688 = .ok (.iaload, 1) := by decide +kernel
theorem d_Law_law_689 : decode M_Law_law.2.1 689 = .ok (.aload_n 0, 1) := by decide +kernel
theorem d_Law_law_690 : decode M_Law_law.2.1 690 = .ok (.iload_n 3, 1) := by decide +kernel
theorem d_Law_law_691 : decode M_Law_law.2.1 691 = .ok (.iconst 5, 1) := by decide +kernel
theorem d_Law_law_692 : decode M_Law_law.2.1 692 = .ok (.iadd, 1) := by decide +kernel
theorem d_Law_law_693 : decode M_Law_law.2.1 693 = .ok (.iaload, 1) := by decide +kernel
theorem d_Law_law_694 : decode M_Law_law.2.1 694 = .ok (.invokevirtual 74, 3) := by decide +kernel
theorem d_Law_law_697 : decode M_Law_law.2.1 697 = .ok (.if_icmp .eq 605, 3) := by decide +kernel
theorem d_Law_law_700 : decode M_Law_law.2.1 700 = .ok (.iconst 0, 1) := by decide +kernel
theorem d_Law_law_701 : decode M_Law_law.2.1 701 = .ok (.ireturn, 1) := by decide +kernel
theorem d_Law_law_702 : decode M_Law_law.2.1 702 = .ok (.aload_n 1, 1) := by decide +kernel
theorem d_Law_law_703 : decode M_Law_law.2.1 703 = .ok (.invokevirtual 75, 3) := by decide +kernel
theorem d_Law_law_706 : decode M_Law_law.2.1 706 = .ok (.aload_n 2, 1) := by decide +kernel
theorem d_Law_law_707 : decode M_Law_law.2.1 707 = .ok (.invokevirtual 78, 3) := by decide +kernel
theorem d_Law_law_710 : decode M_Law_law.2.1 710 = .ok (.if_icmp .eq 592, 3) := by decide +kernel
theorem d_Law_law_713 : decode M_Law_law.2.1 713 = .ok (.iconst 0, 1) := by decide +kernel
theorem d_Law_law_714 : decode M_Law_law.2.1 714 = .ok (.ireturn, 1) := by decide +kernel
theorem d_Law_law_715 : decode M_Law_law.2.1 715 = .ok (.aload_n 1, 1) := by decide +kernel
theorem d_Law_law_716 : decode M_Law_law.2.1 716 = .ok (.aload_n 0, 1) := by decide +kernel
theorem d_Law_law_717 : decode M_Law_law.2.1 717 = .ok (.iload_n 3, 1) := by decide +kernel
theorem d_Law_law_718 : decode M_Law_law.2.1 718 = .ok (.iconst 1, 1) := by decide +kernel
theorem d_Law_law_719 : decode M_Law_law.2.1 719 = .ok (.iadd, 1) := by decide +kernel
theorem d_Law_law_720 : decode M_Law_law.2.1 720 = .ok (.iaload, 1) := by decide +kernel
theorem d_Law_law_721 : decode M_Law_law.2.1 721 = .ok (.aload_n 0, 1) := by decide +kernel
theorem d_Law_law_722 : decode M_Law_law.2.1 722 = .ok (.iload_n 3, 1) := by decide +kernel
theorem d_Law_law_723 : decode M_Law_law.2.1 723 = .ok (.iconst 2, 1) := by decide +kernel
theorem d_Law_law_724 : decode M_Law_law.2.1 724 = .ok (.iadd, 1) := by decide +kernel
theorem d_Law_law_725 : decode M_Law_law.2.1 725 = .ok (.iaload, 1) := by decide +kernel
theorem d_Law_law_726 : decode M_Law_law.2.1 726 = .ok (.invokevirtual 79, 3) := by decide +kernel
theorem d_Law_law_729 : decode M_Law_law.2.1 729 = .ok (.aload_n 2, 1) := by decide +kernel
theorem d_Law_law_730 : decode M_Law_law.2.1 730 = .ok (.aload_n 0, 1) := by decide +kernel
theorem d_Law_law_731 : decode M_Law_law.2.1 731 = .ok (.iload_n 3, 1) := by decide +kernel
theorem d_Law_law_732 : decode M_Law_law.2.1 732 = .ok (.iconst 1, 1) := by decide +kernel
theorem d_Law_law_733 : decode M_Law_law.2.1 733 = .ok (.iadd, 1) := by decide +kernel
theorem d_Law_law_734 : decode M_Law_law.2.1 734 = .ok (.iaload, 1) := by decide +kernel
theorem d_Law_law_735 : decode M_Law_law.2.1 735 = .ok (.aload_n 0, 1) := by decide +kernel
theorem d_Law_law_736 : decode M_Law_law.2.1 736 = .ok (.iload_n 3, 1) := by decide +kernel
theorem d_Law_law_737 : decode M_Law_law.2.1 737 = .ok (.iconst 2, 1) := by decide +kernel
theorem d_Law_law_738 : decode M_Law_law.2.1 738 = .ok (.iadd, 1) := by decide +kernel
theorem d_Law_law_739 : decode M_Law_law.2.1 739 = .ok (.iaload, 1) := by decide +kernel
theorem d_Law_law_740 : decode M_Law_law.2.1 740 = .ok (.invokevirtual 82, 3) := by decide +kernel
theorem d_Law_law_743 : decode M_Law_law.2.1 743 = .ok (.if_icmp .eq 559, 3) := by decide +kernel
theorem d_Law_law_746 : decode M_Law_law.2.1 746 = .ok (.iconst 0, 1) := by decide +kernel
theorem d_Law_law_747 : decode M_Law_law.2.1 747 = .ok (.ireturn, 1) := by decide +kernel
theorem d_Law_law_748 : decode M_Law_law.2.1 748 = .ok (.aload_n 1, 1) := by decide +kernel
theorem d_Law_law_749 : decode M_Law_law.2.1 749 = .ok (.aload_n 0, 1) := by decide +kernel
theorem d_Law_law_750 : decode M_Law_law.2.1 750 = .ok (.iload_n 3, 1) := by decide +kernel
theorem d_Law_law_751 : decode M_Law_law.2.1 751 = .ok (.iconst 1, 1) := by decide +kernel
theorem d_Law_law_752 : decode M_Law_law.2.1 752 = .ok (.iadd, 1) := by decide +kernel
theorem d_Law_law_753 : decode M_Law_law.2.1 753 = .ok (.iaload, 1) := by decide +kernel
theorem d_Law_law_754 : decode M_Law_law.2.1 754 = .ok (.invokevirtual 83, 3) := by decide +kernel
theorem d_Law_law_757 : decode M_Law_law.2.1 757 = .ok (.aload_n 2, 1) := by decide +kernel
theorem d_Law_law_758 : decode M_Law_law.2.1 758 = .ok (.aload_n 0, 1) := by decide +kernel
theorem d_Law_law_759 : decode M_Law_law.2.1 759 = .ok (.iload_n 3, 1) := by decide +kernel
theorem d_Law_law_760 : decode M_Law_law.2.1 760 = .ok (.iconst 1, 1) := by decide +kernel
theorem d_Law_law_761 : decode M_Law_law.2.1 761 = .ok (.iadd, 1) := by decide +kernel
theorem d_Law_law_762 : decode M_Law_law.2.1 762 = .ok (.iaload, 1) := by decide +kernel
theorem d_Law_law_763 : decode M_Law_law.2.1 763 = .ok (.invokevirtual 87, 3) := by decide +kernel
theorem d_Law_law_766 : decode M_Law_law.2.1 766 = .ok (.lcmp, 1) := by decide +kernel
theorem d_Law_law_767 : decode M_Law_law.2.1 767 = .ok (.ifCond .eq 535, 3) := by decide +kernel
theorem d_Law_law_770 : decode M_Law_law.2.1 770 = .ok (.iconst 0, 1) := by decide +kernel
theorem d_Law_law_771 : decode M_Law_law.2.1 771 = .ok (.ireturn, 1) := by decide +kernel
theorem d_Law_law_772 : decode M_Law_law.2.1 772 = .ok (.aload_n 1, 1) := by decide +kernel
theorem d_Law_law_773 : decode M_Law_law.2.1 773 = .ok (.aload_n 0, 1) := by decide +kernel
theorem d_Law_law_774 : decode M_Law_law.2.1 774 = .ok (.iload_n 3, 1) := by decide +kernel
theorem d_Law_law_775 : decode M_Law_law.2.1 775 = .ok (.iconst 1, 1) := by decide +kernel
theorem d_Law_law_776 : decode M_Law_law.2.1 776 = .ok (.iadd, 1) := by decide +kernel
theorem d_Law_law_777 : decode M_Law_law.2.1 777 = .ok (.iaload, 1) := by decide +kernel
theorem d_Law_law_778 : decode M_Law_law.2.1 778 = .ok (.invokevirtual 88, 3) := by decide +kernel
theorem d_Law_law_781 : decode M_Law_law.2.1 781 = .ok (.aload_n 2, 1) := by decide +kernel
theorem d_Law_law_782 : decode M_Law_law.2.1 782 = .ok (.aload_n 0, 1) := by decide +kernel
theorem d_Law_law_783 : decode M_Law_law.2.1 783 = .ok (.iload_n 3, 1) := by decide +kernel
theorem d_Law_law_784 : decode M_Law_law.2.1 784 = .ok (.iconst 1, 1) := by decide +kernel
theorem d_Law_law_785 : decode M_Law_law.2.1 785 = .ok (.iadd, 1) := by decide +kernel
theorem d_Law_law_786 : decode M_Law_law.2.1 786 = .ok (.iaload, 1) := by decide +kernel
theorem d_Law_law_787 : decode M_Law_law.2.1 787 = .ok (.invokevirtual 91, 3) := by decide +kernel
theorem d_Law_law_790 : decode M_Law_law.2.1 790 = .ok (.lcmp, 1) := by decide +kernel
theorem d_Law_law_791 : decode M_Law_law.2.1 791 = .ok (.ifCond .eq 511, 3) := by decide +kernel
theorem d_Law_law_794 : decode M_Law_law.2.1 794 = .ok (.iconst 0, 1) := by decide +kernel
theorem d_Law_law_795 : decode M_Law_law.2.1 795 = .ok (.ireturn, 1) := by decide +kernel
theorem d_Law_law_796 : decode M_Law_law.2.1 796 = .ok (.aload_n 1, 1) := by decide +kernel
theorem d_Law_law_797 : decode M_Law_law.2.1 797 = .ok (.aload_n 0, 1) := by decide +kernel
theorem d_Law_law_798 : decode M_Law_law.2.1 798 = .ok (.iload_n 3, 1) := by decide +kernel
theorem d_Law_law_799 : decode M_Law_law.2.1 799 = .ok (.iconst 1, 1) := by decide +kernel
theorem d_Law_law_800 : decode M_Law_law.2.1 800 = .ok (.iadd, 1) := by decide +kernel
theorem d_Law_law_801 : decode M_Law_law.2.1 801 = .ok (.iaload, 1) := by decide +kernel
theorem d_Law_law_802 : decode M_Law_law.2.1 802 = .ok (.aload_n 0, 1) := by decide +kernel
theorem d_Law_law_803 : decode M_Law_law.2.1 803 = .ok (.iload_n 3, 1) := by decide +kernel
theorem d_Law_law_804 : decode M_Law_law.2.1 804 = .ok (.iconst 2, 1) := by decide +kernel
theorem d_Law_law_805 : decode M_Law_law.2.1 805 = .ok (.iadd, 1) := by decide +kernel
theorem d_Law_law_806 : decode M_Law_law.2.1 806 = .ok (.iaload, 1) := by decide +kernel
theorem d_Law_law_807 : decode M_Law_law.2.1 807 = .ok (.invokevirtual 92, 3) := by decide +kernel
theorem d_Law_law_810 : decode M_Law_law.2.1 810 = .ok (.aload_n 2, 1) := by decide +kernel
theorem d_Law_law_811 : decode M_Law_law.2.1 811 = .ok (.aload_n 0, 1) := by decide +kernel
theorem d_Law_law_812 : decode M_Law_law.2.1 812 = .ok (.iload_n 3, 1) := by decide +kernel
theorem d_Law_law_813 : decode M_Law_law.2.1 813 = .ok (.iconst 1, 1) := by decide +kernel
theorem d_Law_law_814 : decode M_Law_law.2.1 814 = .ok (.iadd, 1) := by decide +kernel
theorem d_Law_law_815 : decode M_Law_law.2.1 815 = .ok (.iaload, 1) := by decide +kernel
theorem d_Law_law_816 : decode M_Law_law.2.1 816 = .ok (.aload_n 0, 1) := by decide +kernel
theorem d_Law_law_817 : decode M_Law_law.2.1 817 = .ok (.iload_n 3, 1) := by decide +kernel
theorem d_Law_law_818 : decode M_Law_law.2.1 818 = .ok (.iconst 2, 1) := by decide +kernel
theorem d_Law_law_819 : decode M_Law_law.2.1 819 = .ok (.iadd, 1) := by decide +kernel
theorem d_Law_law_820 : decode M_Law_law.2.1 820 = .ok (.iaload, 1) := by decide +kernel
theorem d_Law_law_821 : decode M_Law_law.2.1 821 = .ok (.invokevirtual 95, 3) := by decide +kernel
theorem d_Law_law_824 : decode M_Law_law.2.1 824 = .ok (.if_icmp .eq 478, 3) := by decide +kernel
theorem d_Law_law_827 : decode M_Law_law.2.1 827 = .ok (.iconst 0, 1) := by decide +kernel
theorem d_Law_law_828 : decode M_Law_law.2.1 828 = .ok (.ireturn, 1) := by decide +kernel
theorem d_Law_law_829 : decode M_Law_law.2.1 829 = .ok (.aload_n 1, 1) := by decide +kernel
theorem d_Law_law_830 : decode M_Law_law.2.1 830 = .ok (.aload_n 0, 1) := by decide +kernel
theorem d_Law_law_831 : decode M_Law_law.2.1 831 = .ok (.iload_n 3, 1) := by decide +kernel
theorem d_Law_law_832 : decode M_Law_law.2.1 832 = .ok (.iconst 1, 1) := by decide +kernel
theorem d_Law_law_833 : decode M_Law_law.2.1 833 = .ok (.iadd, 1) := by decide +kernel
theorem d_Law_law_834 : decode M_Law_law.2.1 834 = .ok (.iaload, 1) := by decide +kernel
theorem d_Law_law_835 : decode M_Law_law.2.1 835 = .ok (.invokevirtual 96, 3) := by decide +kernel
theorem d_Law_law_838 : decode M_Law_law.2.1 838 = .ok (.aload_n 2, 1) := by decide +kernel
theorem d_Law_law_839 : decode M_Law_law.2.1 839 = .ok (.aload_n 0, 1) := by decide +kernel
theorem d_Law_law_840 : decode M_Law_law.2.1 840 = .ok (.iload_n 3, 1) := by decide +kernel
theorem d_Law_law_841 : decode M_Law_law.2.1 841 = .ok (.iconst 1, 1) := by decide +kernel
theorem d_Law_law_842 : decode M_Law_law.2.1 842 = .ok (.iadd, 1) := by decide +kernel
theorem d_Law_law_843 : decode M_Law_law.2.1 843 = .ok (.iaload, 1) := by decide +kernel
theorem d_Law_law_844 : decode M_Law_law.2.1 844 = .ok (.invokevirtual 99, 3) := by decide +kernel
theorem d_Law_law_847 : decode M_Law_law.2.1 847 = .ok (.if_icmp .eq 455, 3) := by decide +kernel
theorem d_Law_law_850 : decode M_Law_law.2.1 850 = .ok (.iconst 0, 1) := by decide +kernel
theorem d_Law_law_851 : decode M_Law_law.2.1 851 = .ok (.ireturn, 1) := by decide +kernel
theorem d_Law_law_852 : decode M_Law_law.2.1 852 = .ok (.aload_n 1, 1) := by decide +kernel
theorem d_Law_law_853 : decode M_Law_law.2.1 853 = .ok (.aload_n 0, 1) := by decide +kernel
theorem d_Law_law_854 : decode M_Law_law.2.1 854 = .ok (.iload_n 3, 1) := by decide +kernel
theorem d_Law_law_855 : decode M_Law_law.2.1 855 = .ok (.iconst 1, 1) := by decide +kernel
theorem d_Law_law_856 : decode M_Law_law.2.1 856 = .ok (.iadd, 1) := by decide +kernel
theorem d_Law_law_857 : decode M_Law_law.2.1 857 = .ok (.iaload, 1) := by decide +kernel
theorem d_Law_law_858 : decode M_Law_law.2.1 858 = .ok (.aload_n 0, 1) := by decide +kernel
theorem d_Law_law_859 : decode M_Law_law.2.1 859 = .ok (.iload_n 3, 1) := by decide +kernel
theorem d_Law_law_860 : decode M_Law_law.2.1 860 = .ok (.iconst 2, 1) := by decide +kernel
theorem d_Law_law_861 : decode M_Law_law.2.1 861 = .ok (.iadd, 1) := by decide +kernel
theorem d_Law_law_862 : decode M_Law_law.2.1 862 = .ok (.iaload, 1) := by decide +kernel
theorem d_Law_law_863 : decode M_Law_law.2.1 863 = .ok (.aload_n 0, 1) := by decide +kernel
theorem d_Law_law_864 : decode M_Law_law.2.1 864 = .ok (.iload_n 3, 1) := by decide +kernel
theorem d_Law_law_865 : decode M_Law_law.2.1 865 = .ok (.iconst 3, 1) := by decide +kernel
theorem d_Law_law_866 : decode M_Law_law.2.1 866 = .ok (.iadd, 1) := by decide +kernel
theorem d_Law_law_867 : decode M_Law_law.2.1 867 = .ok (.iaload, 1) := by decide +kernel
theorem d_Law_law_868 : decode M_Law_law.2.1 868 = .ok (.invokevirtual 100, 3) := by decide +kernel
theorem d_Law_law_871 : decode M_Law_law.2.1 871 = .ok (.aload_n 2, 1) := by decide +kernel
theorem d_Law_law_872 : decode M_Law_law.2.1 872 = .ok (.aload_n 0, 1) := by decide +kernel
theorem d_Law_law_873 : decode M_Law_law.2.1 873 = .ok (.iload_n 3, 1) := by decide +kernel
theorem d_Law_law_874 : decode M_Law_law.2.1 874 = .ok (.iconst 1, 1) := by decide +kernel
theorem d_Law_law_875 : decode M_Law_law.2.1 875 = .ok (.iadd, 1) := by decide +kernel
theorem d_Law_law_876 : decode M_Law_law.2.1 876 = .ok (.iaload, 1) := by decide +kernel
theorem d_Law_law_877 : decode M_Law_law.2.1 877 = .ok (.aload_n 0, 1) := by decide +kernel
theorem d_Law_law_878 : decode M_Law_law.2.1 878 = .ok (.iload_n 3, 1) := by decide +kernel
theorem d_Law_law_879 : decode M_Law_law.2.1 879 = .ok (.iconst 2, 1) := by decide +kernel
