theorem d_law_586 : decode code 586 = .ok (.iadd, 1) := by decide +kernel
theorem d_law_587 : decode code 587 = .ok (.iaload, 1) := by decide +kernel
theorem d_law_588 : decode code 588 = .ok (.aload_n 0, 1) := by decide +kernel
theorem d_law_589 : decode code 589 = .ok (.iload 4, 2) := by decide +kernel
theorem d_law_591 : decode code 591 = .ok (.iconst 3, 1) := by decide +kernel
theorem d_law_592 : decode code 592 = .ok (.iadd, 1) := by decide +kernel
theorem d_law_593 : decode code 593 = .ok (.iaload, 1) := by decide +kernel
theorem d_law_594 : decode code 594 = .ok (.aload_n 3, 1) := by decide +kernel
theorem d_law_595 : decode code 595 = .ok (.invokestatic 118, 3) := by decide +kernel
theorem d_law_598 : decode code 598 = .ok (.istore 5, 2) := by decide +kernel
theorem d_law_600 : decode code 600 = .ok (.aload_n 2, 1) := by decide +kernel
theorem d_law_601 : decode code 601 = .ok (.aload_n 0, 1) := by decide +kernel
theorem d_law_602 : decode code 602 = .ok (.iload 4, 2) := by decide +kernel
theorem d_law_604 : decode code 604 = .ok (.iconst 1, 1) := by decide +kernel
theorem d_law_605 : decode code 605 = .ok (.iadd, 1) := by decide +kernel
theorem d_law_606 : decode code 606 = .ok (.iaload, 1) := by decide +kernel
theorem d_law_607 : decode code 607 = .ok (.aload_n 0, 1) := by decide +kernel
theorem d_law_608 : decode code 608 = .ok (.iload 4, 2) := by decide +kernel
theorem d_law_610 : decode code 610 = .ok (.iconst 2, 1) := by decide +kernel
theorem d_law_611 : decode code 611 = .ok (.iadd, 1) := by decide +kernel
theorem d_law_612 : decode code 612 = .ok (.iaload, 1) := by decide +kernel
theorem d_law_613 : decode code 613 = .ok (.aload_n 0, 1) := by decide +kernel
theorem d_law_614 : decode code 614 = .ok (.iload 4, 2) := by decide +kernel
theorem d_law_616 : decode code 616 = .ok (.iconst 3, 1) := by decide +kernel
theorem d_law_617 : decode code 617 = .ok (.iadd, 1) := by decide +kernel
theorem d_law_618 : decode code 618 = .ok (.iaload, 1) := by decide +kernel
theorem d_law_619 : decode code 619 = .ok (.invokevirtual 120, 3) := by decide +kernel
theorem d_law_622 : decode code 622 = .ok (.istore 6, 2) := by decide +kernel
theorem d_law_624 : decode code 624 = .ok (.aload_n 2, 1) := by decide +kernel
theorem d_law_625 : decode code 625 = .ok (.invokevirtual 100, 3) := by decide +kernel
theorem d_law_628 : decode code 628 = .ok (.iload 5, 2) := by decide +kernel
theorem d_law_630 : decode code 630 = .ok (.if_icmp .eq 5, 3) := by decide +kernel
theorem d_law_633 : decode code 633 = .ok (.iconst 0, 1) := by decide +kernel
theorem d_law_634 : decode code 634 = .ok (.ireturn, 1) := by decide +kernel
theorem d_law_635 : decode code 635 = .ok (.iload 5, 2) := by decide +kernel
theorem d_law_637 : decode code 637 = .ok (.ifCond .ne 15, 3) := by decide +kernel
theorem d_law_640 : decode code 640 = .ok (.aload_n 3, 1) := by decide +kernel
theorem d_law_641 : decode code 641 = .ok (.iconst 0, 1) := by decide +kernel
theorem d_law_642 : decode code 642 = .ok (.laload, 1) := by decide +kernel
theorem d_law_643 : decode code 643 = .ok (.iload 6, 2) := by decide +kernel
theorem d_law_645 : decode code 645 = .ok (.i2l, 1) := by decide +kernel
theorem d_law_646 : decode code 646 = .ok (.lcmp, 1) := by decide +kernel
theorem d_law_647 : decode code 647 = .ok (.ifCond .eq 5, 3) := by decide +kernel
theorem d_law_650 : decode code 650 = .ok (.iconst 0, 1) := by decide +kernel
theorem d_law_651 : decode code 651 = .ok (.ireturn, 1) := by decide +kernel
theorem d_law_652 : decode code 652 = .ok (.goto 977, 3) := by decide +kernel
theorem d_law_655 : decode code 655 = .ok (.aload_n 1, 1) := by decide +kernel
theorem d_law_656 : decode code 656 = .ok (.aload_n 0, 1) := by decide +kernel
theorem d_law_657 : decode code 657 = .ok (.iload 4, 2) := by decide +kernel
theorem d_law_659 : decode code 659 = .ok (.iconst 1, 1) := by decide +kernel
theorem d_law_660 : decode code 660 = .ok (.iadd, 1) := by decide +kernel
theorem d_law_661 : decode code 661 = .ok (.iaload, 1) := by decide +kernel
theorem d_law_662 : decode code 662 = .ok (.aload_n 0, 1) := by decide +kernel
theorem d_law_663 : decode code 663 = .ok (.iload 4, 2) := by decide +kernel
theorem d_law_665 : decode code 665 = .ok (.iconst 2, 1) := by decide +kernel
theorem d_law_666 : decode code 666 = .ok (.iadd, 1) := by decide +kernel
theorem d_law_667 : decode code 667 = .ok (.iaload, 1) := by decide +kernel
theorem d_law_668 : decode code 668 = .ok (.aload_n 3, 1) := by decide +kernel
theorem d_law_669 : decode code 669 = .ok (.invokestatic 121, 3) := by decide +kernel
theorem d_law_672 : decode code 672 = .ok (.istore 5, 2) := by decide +kernel
theorem d_law_674 : decode code 674 = .ok (.aload_n 2, 1) := by decide +kernel
theorem d_law_675 : decode code 675 = .ok (.aload_n 0, 1) := by decide +kernel
theorem d_law_676 : decode code 676 = .ok (.iload 4, 2) := by decide +kernel
theorem d_law_678 : decode code 678 = .ok (.iconst 1, 1) := by decide +kernel
theorem d_law_679 : decode code 679 = .ok (.iadd, 1) := by decide +kernel
theorem d_law_680 : decode code 680 = .ok (.iaload, 1) := by decide +kernel
theorem d_law_681 : decode code 681 = .ok (.aload_n 0, 1) := by decide +kernel
theorem d_law_682 : decode code 682 = .ok (.iload 4, 2) := by decide +kernel
theorem d_law_684 : decode code 684 = .ok (.iconst 2, 1) := by decide +kernel
theorem d_law_685 : decode code 685 = .ok (.iadd, 1) := by decide +kernel
theorem d_law_686 : decode code 686 = .ok (.iaload, 1) := by decide +kernel
theorem d_law_687 : decode code 687 = .ok (.invokevirtual 123, 3) := by decide +kernel
theorem d_law_690 : decode code 690 = .ok (.istore 6, 2) := by decide +kernel
theorem d_law_692 : decode code 692 = .ok (.aload_n 2, 1) := by decide +kernel
theorem d_law_693 : decode code 693 = .ok (.invokevirtual 100, 3) := by decide +kernel
theorem d_law_696 : decode code 696 = .ok (.iload 5, 2) := by decide +kernel
theorem d_law_698 : decode code 698 = .ok (.if_icmp .eq 5, 3) := by decide +kernel
theorem d_law_701 : decode code 701 = .ok (.iconst 0, 1) := by decide +kernel
theorem d_law_702 : decode code 702 = .ok (.ireturn, 1) := by decide +kernel
theorem d_law_703 : decode code 703 = .ok (.iload 5, 2) := by decide +kernel
theorem d_law_705 : decode code 705 = .ok (.ifCond .ne 15, 3) := by decide +kernel
theorem d_law_708 : decode code 708 = .ok (.aload_n 3, 1) := by decide +kernel
theorem d_law_709 : decode code 709 = .ok (.iconst 0, 1) := by decide +kernel
theorem d_law_710 : decode code 710 = .ok (.laload, 1) := by decide +kernel
theorem d_law_711 : decode code 711 = .ok (.iload 6, 2) := by decide +kernel
theorem d_law_713 : decode code 713 = .ok (.i2l, 1) := by decide +kernel
theorem d_law_714 : decode code 714 = .ok (.lcmp, 1) := by decide +kernel
theorem d_law_715 : decode code 715 = .ok (.ifCond .eq 5, 3) := by decide +kernel
theorem d_law_718 : decode code 718 = .ok (.iconst 0, 1) := by decide +kernel
theorem d_law_719 : decode code 719 = .ok (.ireturn, 1) := by decide +kernel
theorem d_law_720 : decode code 720 = .ok (.goto 909, 3) := by decide +kernel
theorem d_law_723 : decode code 723 = .ok (.aload_n 1, 1) := by decide +kernel
theorem d_law_724 : decode code 724 = .ok (.aload_n 0, 1) := by decide +kernel
theorem d_law_725 : decode code 725 = .ok (.iload 4, 2) := by decide +kernel
theorem d_law_727 : decode code 727 = .ok (.iconst 1, 1) := by decide +kernel
theorem d_law_728 : decode code 728 = .ok (.iadd, 1) := by decide +kernel
theorem d_law_729 : decode code 729 = .ok (.iaload, 1) := by decide +kernel
theorem d_law_730 : decode code 730 = .ok (.aload_n 3, 1) := by decide +kernel
theorem d_law_731 : decode code 731 = .ok (.invokestatic 124, 3) := by decide +kernel
theorem d_law_734 : decode code 734 = .ok (.istore 5, 2) := by decide +kernel
theorem d_law_736 : decode code 736 = .ok (.aload_n 2, 1) := by decide +kernel
theorem d_law_737 : decode code 737 = .ok (.aload_n 0, 1) := by decide +kernel
theorem d_law_738 : decode code 738 = .ok (.iload 4, 2) := by decide +kernel
theorem d_law_740 : decode code 740 = .ok (.iconst 1, 1) := by decide +kernel
theorem d_law_741 : decode code 741 = .ok (.iadd, 1) := by decide +kernel
theorem d_law_742 : decode code 742 = .ok (.iaload, 1) := by decide +kernel
theorem d_law_743 : decode code 743 = .ok (.invokevirtual 127, 3) := by decide +kernel
theorem d_law_746 : decode code 746 = .ok (.istore 6, 2) := by decide +kernel
theorem d_law_748 : decode code 748 = .ok (.aload_n 2, 1) := by decide +kernel
theorem d_law_749 : decode code 749 = .ok (.invokevirtual 100, 3) := by decide +kernel
theorem d_law_752 : decode code 752 = .ok (.iload 5, 2) := by decide +kernel
theorem d_law_754 : decode code 754 = .ok (.if_icmp .eq 5, 3) := by decide +kernel
theorem d_law_757 : decode code 757 = .ok (.iconst 0, 1) := by decide +kernel
theorem d_law_758 : decode code 758 = .ok (.ireturn, 1) := by decide +kernel
theorem d_law_759 : decode code 759 = .ok (.iload 5, 2) := by decide +kernel
theorem d_law_761 : decode code 761 = .ok (.ifCond .ne 15, 3) := by decide +kernel
theorem d_law_764 : decode code 764 = .ok (.aload_n 3, 1) := by decide +kernel
theorem d_law_765 : decode code 765 = .ok (.iconst 0, 1) := by decide +kernel
theorem d_law_766 : decode code 766 = .ok (.laload, 1) := by decide +kernel
theorem d_law_767 : decode code 767 = .ok (.iload 6, 2) := by decide +kernel
theorem d_law_769 : decode code 769 = .ok (.i2l, 1) := by decide +kernel
theorem d_law_770 : decode code 770 = .ok (.lcmp, 1) := by decide +kernel
theorem d_law_771 : decode code 771 = .ok (.ifCond .eq 5, 3) := by decide +kernel
theorem d_law_774 : decode code 774 = .ok (.iconst 0, 1) := by decide +kernel
theorem d_law_775 : decode code 775 = .ok (.ireturn, 1) := by decide +kernel
theorem d_law_776 : decode code 776 = .ok (.goto 853, 3) := by decide +kernel
theorem d_law_779 : decode code 779 = .ok (.aload_n 1, 1) := by decide +kernel
theorem d_law_780 : decode code 780 = .ok (.aload_n 0, 1) := by decide +kernel
theorem d_law_781 : decode code 781 = .ok (.iload 4, 2) := by decide +kernel
theorem d_law_783 : decode code 783 = .ok (.iconst 1, 1) := by decide +kernel
theorem d_law_784 : decode code 784 = .ok (.iadd, 1) := by decide +kernel
theorem d_law_785 : decode code 785 = .ok (.iaload, 1) := by decide +kernel
theorem d_law_786 : decode code 786 = .ok (.aload_n 0, 1) := by decide +kernel
theorem d_law_787 : decode code 787 = .ok (.iload 4, 2) := by decide +kernel
theorem d_law_789 : decode code 789 = .ok (.iconst 2, 1) := by decide +kernel
theorem d_law_790 : decode code 790 = .ok (.iadd, 1) := by decide +kernel
theorem d_law_791 : decode code 791 = .ok (.iaload, 1) := by decide +kernel
theorem d_law_792 : decode code 792 = .ok (.aload_n 3, 1) := by decide +kernel
theorem d_law_793 : decode code 793 = .ok (.invokestatic 128, 3) := by decide +kernel
theorem d_law_796 : decode code 796 = .ok (.istore 5, 2) := by decide +kernel
theorem d_law_798 : decode code 798 = .ok (.aload_n 2, 1) := by decide +kernel
theorem d_law_799 : decode code 799 = .ok (.aload_n 0, 1) := by decide +kernel
theorem d_law_800 : decode code 800 = .ok (.iload 4, 2) := by decide +kernel
theorem d_law_802 : decode code 802 = .ok (.iconst 1, 1) := by decide +kernel
theorem d_law_803 : decode code 803 = .ok (.iadd, 1) := by decide +kernel
theorem d_law_804 : decode code 804 = .ok (.iaload, 1) := by decide +kernel
theorem d_law_805 : decode code 805 = .ok (.aload_n 0, 1) := by decide +kernel
theorem d_law_806 : decode code 806 = .ok (.iload 4, 2) := by decide +kernel
theorem d_law_808 : decode code 808 = .ok (.iconst 2, 1) := by decide +kernel
theorem d_law_809 : decode code 809 = .ok (.iadd, 1) := by decide +kernel
theorem d_law_810 : decode code 810 = .ok (.iaload, 1) := by decide +kernel
theorem d_law_811 : decode code 811 = .ok (.invokevirtual 130, 3) := by decide +kernel
theorem d_law_814 : decode code 814 = .ok (.istore 6, 2) := by decide +kernel
theorem d_law_816 : decode code 816 = .ok (.aload_n 2, 1) := by decide +kernel
theorem d_law_817 : decode code 817 = .ok (.invokevirtual 100, 3) := by decide +kernel
theorem d_law_820 : decode code 820 = .ok (.iload 5, 2) := by decide +kernel
theorem d_law_822 : decode code 822 = .ok (.if_icmp .eq 5, 3) := by decide +kernel
theorem d_law_825 : decode code 825 = .ok (.iconst 0, 1) := by decide +kernel
theorem d_law_826 : decode code 826 = .ok (.ireturn, 1) := by decide +kernel
theorem d_law_827 : decode code 827 = .ok (.iload 5, 2) := by decide +kernel
theorem d_law_829 : decode code 829 = .ok (.ifCond .ne 15, 3) := by decide +kernel
theorem d_law_832 : decode code 832 = .ok (.aload_n 3, 1) := by decide +kernel
theorem d_law_833 : decode code 833 = .ok (.iconst 0, 1) := by decide +kernel
theorem d_law_834 : decode code 834 = .ok (.laload, 1) := by decide +kernel
theorem d_law_835 : decode code 835 = .ok (.iload 6, 2) := by decide +kernel
theorem d_law_837 : decode code 837 = .ok (.i2l, 1) := by decide +kernel
theorem d_law_838 : decode code 838 = .ok (.lcmp, 1) := by decide +kernel
theorem d_law_839 : decode code 839 = .ok (.ifCond .eq 5, 3) := by decide +kernel
theorem d_law_842 : decode code 842 = .ok (.iconst 0, 1) := by decide +kernel
theorem d_law_843 : decode code 843 = .ok (.ireturn, 1) := by decide +kernel
theorem d_law_844 : decode code 844 = .ok (.goto 785, 3) := by decide +kernel
theorem d_law_847 : decode code 847 = .ok (.aload_n 1, 1) := by decide +kernel
theorem d_law_848 : decode code 848 = .ok (.aload_n 0, 1) := by decide +kernel
theorem d_law_849 : decode code 849 = .ok (.iload 4, 2) := by decide +kernel
theorem d_law_851 : decode code 851 = .ok (.iconst 1, 1) := by decide +kernel
theorem d_law_852 : decode code 852 = .ok (.iadd, 1) := by decide +kernel
theorem d_law_853 : decode code 853 = .ok (.iaload, 1) := by decide +kernel
theorem d_law_854 : decode code 854 = .ok (.aload_n 0, 1) := by decide +kernel
theorem d_law_855 : decode code 855 = .ok (.iload 4, 2) := by decide +kernel
theorem d_law_857 : decode code 857 = .ok (.iconst 2, 1) := by decide +kernel
theorem d_law_858 : decode code 858 = .ok (.iadd, 1) := by decide +kernel
theorem d_law_859 : decode code 859 = .ok (.iaload, 1) := by decide +kernel
theorem d_law_860 : decode code 860 = .ok (.aload_n 0, 1) := by decide +kernel
theorem d_law_861 : decode code 861 = .ok (.iload 4, 2) := by decide +kernel
theorem d_law_863 : decode code 863 = .ok (.iconst 3, 1) := by decide +kernel
theorem d_law_864 : decode code 864 = .ok (.iadd, 1) := by decide +kernel
theorem d_law_865 : decode code 865 = .ok (.iaload, 1) := by decide +kernel
theorem d_law_866 : decode code 866 = .ok (.aload_n 3, 1) := by decide +kernel
theorem d_law_867 : decode code 867 = .ok (.invokestatic 131, 3) := by decide +kernel
theorem d_law_870 : decode code 870 = .ok (.istore 5, 2) := by decide +kernel
theorem d_law_872 : decode code 872 = .ok (.aload_n 2, 1) := by decide +kernel
theorem d_law_873 : decode code 873 = .ok (.aload_n 0, 1) := by decide +kernel
theorem d_law_874 : decode code 874 = .ok (.iload 4, 2) := by decide +kernel
theorem d_law_876 : decode code 876 = .ok (.iconst 1, 1) := by decide +kernel
theorem d_law_877 : decode code 877 = .ok (.iadd, 1) := by decide +kernel
theorem d_law_878 : decode code 878 = .ok (.iaload, 1) := by decide +kernel
theorem d_law_879 : decode code 879 = .ok (.aload_n 0, 1) := by decide +kernel
theorem d_law_880 : decode code 880 = .ok (.iload 4, 2) := by decide +kernel
theorem d_law_882 : decode code 882 = .ok (.iconst 2, 1) := by decide +kernel
theorem d_law_883 : decode code 883 = .ok (.iadd, 1) := by decide +kernel
theorem d_law_884 : decode code 884 = .ok (.iaload, 1) := by decide +kernel
theorem d_law_885 : decode code 885 = .ok (.aload_n 0, 1) := by decide +kernel
theorem d_law_886 : decode code 886 = .ok (.iload 4, 2) := by decide +kernel
theorem d_law_888 : decode code 888 = .ok (.iconst 3, 1) := by decide +kernel
theorem d_law_889 : decode code 889 = .ok (.iadd, 1) := by decide +kernel
theorem d_law_890 : decode code 890 = .ok (.iaload, 1) := by decide +kernel
theorem d_law_891 : decode code 891 = .ok (.invokevirtual 133, 3) := by decide +kernel
theorem d_law_894 : decode code 894 = .ok (.istore 6, 2) := by decide +kernel
theorem d_law_896 : decode code 896 = .ok (.aload_n 2, 1) := by decide +kernel
theorem d_law_897 : decode code 897 = .ok (.invokevirtual 100, 3) := by decide +kernel
theorem d_law_900 : decode code 900 = .ok (.iload 5, 2) := by decide +kernel
theorem d_law_902 : decode code 902 = .ok (.if_icmp .eq 5, 3) := by decide +kernel
theorem d_law_905 : decode code 905 = .ok (.iconst 0, 1) := by decide +kernel
theorem d_law_906 : decode code 906 = .ok (.ireturn, 1) := by decide +kernel
theorem d_law_907 : decode code 907 = .ok (.iload 5, 2) := by decide +kernel
theorem d_law_909 : decode code 909 = .ok (.ifCond .ne 15, 3) := by decide +kernel
theorem d_law_912 : decode code 912 = .ok (.aload_n 3, 1) := by decide +kernel
theorem d_law_913 : decode code 913 = .ok (.iconst 0, 1) := by decide +kernel
theorem d_law_914 : decode code 914 = .ok (.laload, 1) := by decide +kernel
theorem d_law_915 : decode code 915 = .ok (.iload 6, 2) := by decide +kernel
theorem d_law_917 : decode code 917 = .ok (.i2l, 1) := by decide +kernel
theorem d_law_918 : decode code 918 = .ok (.lcmp, 1) := by decide +kernel
theorem d_law_919 : decode code 919 = .ok (.ifCond .eq 5, 3) := by decide +kernel
theorem d_law_922 : decode code 922 = .ok (.iconst 0, 1) := by decide +kernel
theorem d_law_923 : decode code 923 = .ok (.ireturn, 1) := by decide +kernel
theorem d_law_924 : decode code 924 = .ok (.goto 705, 3) := by decide +kernel
theorem d_law_927 : decode code 927 = .ok (.aload_n 1, 1) := by decide +kernel
theorem d_law_928 : decode code 928 = .ok (.aload_n 3, 1) := by decide +kernel
theorem d_law_929 : decode code 929 = .ok (.invokestatic 134, 3) := by decide +kernel
theorem d_law_932 : decode code 932 = .ok (.istore 5, 2) := by decide +kernel
theorem d_law_934 : decode code 934 = .ok (.aload_n 2, 1) := by decide +kernel
theorem d_law_935 : decode code 935 = .ok (.invokevirtual 137, 3) := by decide +kernel
theorem d_law_938 : decode code 938 = .ok (.istore 6, 2) := by decide +kernel
theorem d_law_940 : decode code 940 = .ok (.aload_n 2, 1) := by decide +kernel
theorem d_law_941 : decode code 941 = .ok (.invokevirtual 100, 3) := by decide +kernel
theorem d_law_944 : decode code 944 = .ok (.iload 5, 2) := by decide +kernel
theorem d_law_946 : decode code 946 = .ok (.if_icmp .eq 5, 3) := by decide +kernel
theorem d_law_949 : decode code 949 = .ok (.iconst 0, 1) := by decide +kernel
theorem d_law_950 : decode code 950 = .ok (.ireturn, 1) := by decide +kernel
theorem d_law_951 : decode code 951 = .ok (.iload 5, 2) := by decide +kernel
theorem d_law_953 : decode code 953 = .ok (.ifCond .ne 15, 3) := by decide +kernel
theorem d_law_956 : decode code 956 = .ok (.aload_n 3, 1) := by decide +kernel
theorem d_law_957 : decode code 957 = .ok (.iconst 0, 1) := by decide +kernel
theorem d_law_958 : decode code 958 = .ok (.laload, 1) := by decide +kernel
theorem d_law_959 : decode code 959 = .ok (.iload 6, 2) := by decide +kernel
theorem d_law_961 : decode code 961 = .ok (.i2l, 1) := by decide +kernel
theorem d_law_962 : decode code 962 = .ok (.lcmp, 1) := by decide +kernel
theorem d_law_963 : decode code 963 = .ok (.ifCond .eq 5, 3) := by decide +kernel
theorem d_law_966 : decode code 966 = .ok (.iconst 0, 1) := by decide +kernel
theorem d_law_967 : decode code 967 = .ok (.ireturn, 1) := by decide +kernel
theorem d_law_968 : decode code 968 = .ok (.goto 661, 3) := by decide +kernel
theorem d_law_971 : decode code 971 = .ok (.aload_n 1, 1) := by decide +kernel
theorem d_law_972 : decode code 972 = .ok (.aload_n 0, 1) := by decide +kernel
theorem d_law_973 : decode code 973 = .ok (.iload 4, 2) := by decide +kernel
theorem d_law_975 : decode code 975 = .ok (.iconst 1, 1) := by decide +kernel
theorem d_law_976 : decode code 976 = .ok (.iadd, 1) := by decide +kernel
theorem d_law_977 : decode code 977 = .ok (.iaload, 1) := by decide +kernel
theorem d_law_978 : decode code 978 = .ok (.aload_n 3, 1) := by decide +kernel
theorem d_law_979 : decode code 979 = .ok (.invokestatic 138, 3) := by decide +kernel
theorem d_law_982 : decode code 982 = .ok (.istore 5, 2) := by decide +kernel
theorem d_law_984 : decode code 984 = .ok (.aload_n 2, 1) := by decide +kernel
theorem d_law_985 : decode code 985 = .ok (.aload_n 0, 1) := by decide +kernel
theorem d_law_986 : decode code 986 = .ok (.iload 4, 2) := by decide +kernel
theorem d_law_988 : decode code 988 = .ok (.iconst 1, 1) := by decide +kernel
theorem d_law_989 : decode code 989 = .ok (.iadd, 1) := by decide +kernel
theorem d_law_990 : decode code 990 = .ok (.iaload, 1) := by decide +kernel
theorem d_law_991 : decode code 991 = .ok (.invokevirtual 140, 3) := by decide +kernel
theorem d_law_994 : decode code 994 = .ok (.istore 6, 2) := by decide +kernel
theorem d_law_996 : decode code 996 = .ok (.aload_n 2, 1) := by decide +kernel
theorem d_law_997 : decode code 997 = .ok (.invokevirtual 100, 3) := by decide +kernel
theorem d_law_1000 : decode code 1000 = .ok (.iload 5, 2) := by decide +kernel
theorem d_law_1002 : decode code 1002 = .ok (.if_icmp .eq 5, 3) := by decide +kernel
theorem d_law_1005 : decode code 1005 = .ok (.iconst 0, 1) := by decide +kernel
theorem d_law_1006 : decode code 1006 = .ok (.ireturn, 1) := by decide +kernel
theorem d_law_1007 : decode code 1007 = .ok (.iload 5, 2) := by decide +kernel
theorem d_law_1009 : decode code 1009 = .ok (.ifCond .ne 22, 3) := by decide +kernel
theorem d_law_1012 : decode code 1012 = .ok (.aload_n 3, 1) := by decide +kernel
theorem d_law_1013 : decode code 1013 = .ok (.iconst 0, 1) := by decide +kernel
theorem d_law_1014 : decode code 1014 = .ok (.laload, 1) := by decide +kernel
theorem d_law_1015 : decode code 1015 = .ok (.iload 6, 2) := by decide +kernel
theorem d_law_1017 : decode code 1017 = .ok (.ifCond .eq 7, 3) := by decide +kernel
theorem d_law_1020 : decode code 1020 = .ok (.lconst 1, 1) := by decide +kernel
theorem d_law_1021 : decode code 1021 = .ok (.goto 4, 3) := by decide +kernel
theorem d_law_1024 : decode code 1024 = .ok (.lconst 0, 1) := by decide +kernel
theorem d_law_1025 : decode code 1025 = .ok (.lcmp, 1) := by decide +kernel
theorem d_law_1026 : decode code 1026 = .ok (.ifCond .eq 5, 3) := by decide +kernel
theorem d_law_1029 : decode code 1029 = .ok (.iconst 0, 1) := by decide +kernel
theorem d_law_1030 : decode code 1030 = .ok (.ireturn, 1) := by decide +kernel
theorem d_law_1031 : decode code 1031 = .ok (.goto 598, 3) := by decide +kernel
theorem d_law_1034 : decode code 1034 = .ok (.aload_n 1, 1) := by decide +kernel
theorem d_law_1035 : decode code 1035 = .ok (.aload_n 0, 1) := by decide +kernel
theorem d_law_1036 : decode code 1036 = .ok (.iload 4, 2) := by decide +kernel
theorem d_law_1038 : decode code 1038 = .ok (.iconst 1, 1) := by decide +kernel
theorem d_law_1039 : decode code 1039 = .ok (.iadd, 1) := by decide +kernel
theorem d_law_1040 : decode code 1040 = .ok (.iaload, 1) := by decide +kernel
theorem d_law_1041 : decode code 1041 = .ok (.aload_n 3, 1) := by decide +kernel
theorem d_law_1042 : decode code 1042 = .ok (.invokestatic 141, 3) := by decide +kernel
theorem d_law_1045 : decode code 1045 = .ok (.istore 5, 2) := by decide +kernel
theorem d_law_1047 : decode code 1047 = .ok (.aload_n 2, 1) := by decide +kernel
theorem d_law_1048 : decode code 1048 = .ok (.aload_n 0, 1) := by decide +kernel
theorem d_law_1049 : decode code 1049 = .ok (.iload 4, 2) := by decide +kernel
theorem d_law_1051 : decode code 1051 = .ok (.iconst 1, 1) := by decide +kernel
theorem d_law_1052 : decode code 1052 = .ok (.iadd, 1) := by decide +kernel
theorem d_law_1053 : decode code 1053 = .ok (.iaload, 1) := by decide +kernel
theorem d_law_1054 : decode code 1054 = .ok (.invokevirtual 143, 3) := by decide +kernel
theorem d_law_1057 : decode code 1057 = .ok (.istore 6, 2) := by decide +kernel
theorem d_law_1059 : decode code 1059 = .ok (.aload_n 2, 1) := by decide +kernel
theorem d_law_1060 : decode code 1060 = .ok (.invokevirtual 100, 3) := by decide +kernel
theorem d_law_1063 : decode code 1063 = .ok (.iload 5, 2) := by decide +kernel
theorem d_law_1065 : decode code 1065 = .ok (.if_icmp .eq 5, 3) := by decide +kernel
theorem d_law_1068 : decode code 1068 = .ok (.iconst 0, 1) := by decide +kernel
theorem d_law_1069 : decode code 1069 = .ok (.ireturn, 1) := by decide +kernel
theorem d_law_1070 : decode code 1070 = .ok (.iload 5, 2) := by decide +kernel
theorem d_law_1072 : decode code 1072 = .ok (.ifCond .ne 15, 3) := by decide +kernel
theorem d_law_1075 : decode code 1075 = .ok (.aload_n 3, 1) := by decide +kernel
theorem d_law_1076 : decode code 1076 = .ok (.iconst 0, 1) := by decide +kernel
theorem d_law_1077 : decode code 1077 = .ok (.laload, 1) := by decide +kernel
theorem d_law_1078 : decode code 1078 = .ok (.iload 6, 2) := by decide +kernel
theorem d_law_1080 : decode code 1080 = .ok (.i2l, 1) := by decide +kernel
theorem d_law_1081 : decode code 1081 = .ok (.lcmp, 1) := by decide +kernel
theorem d_law_1082 : decode code 1082 = .ok (.ifCond .eq 5, 3) := by decide +kernel
theorem d_law_1085 : decode code 1085 = .ok (.iconst 0, 1) := by decide +kernel
theorem d_law_1086 : decode code 1086 = .ok (.ireturn, 1) := by decide +kernel
theorem d_law_1087 : decode code 1087 = .ok (.goto 542, 3) := by decide +kernel
theorem d_law_1090 : decode code 1090 = .ok (.aload_n 1, 1) := by decide +kernel
theorem d_law_1091 : decode code 1091 = .ok (.aload_n 0, 1) := by decide +kernel
theorem d_law_1092 : decode code 1092 = .ok (.iload 4, 2) := by decide +kernel
theorem d_law_1094 : decode code 1094 = .ok (.iconst 1, 1) := by decide +kernel
theorem d_law_1095 : decode code 1095 = .ok (.iadd, 1) := by decide +kernel
theorem d_law_1096 : decode code 1096 = .ok (.iaload, 1) := by decide +kernel
