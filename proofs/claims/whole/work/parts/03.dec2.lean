theorem dL_law_663 : decode cL_law 663 = .ok (.iaload, 1) := by decide +kernel
theorem dL_law_664 : decode cL_law 664 = .ok (.aload_n 0, 1) := by decide +kernel
theorem dL_law_665 : decode cL_law 665 = .ok (.iload 4, 2) := by decide +kernel
theorem dL_law_667 : decode cL_law 667 = .ok (.iconst 2, 1) := by decide +kernel
theorem dL_law_668 : decode cL_law 668 = .ok (.iadd, 1) := by decide +kernel
theorem dL_law_669 : decode cL_law 669 = .ok (.iaload, 1) := by decide +kernel
theorem dL_law_670 : decode cL_law 670 = .ok (.invokevirtual 87, 3) := by decide +kernel
theorem dL_law_673 : decode cL_law 673 = .ok (.if_icmp .eq 869, 3) := by decide +kernel
theorem dL_law_676 : decode cL_law 676 = .ok (.iconst 0, 1) := by decide +kernel
theorem dL_law_677 : decode cL_law 677 = .ok (.ireturn, 1) := by decide +kernel
theorem dL_law_678 : decode cL_law 678 = .ok (.aload_n 1, 1) := by decide +kernel
theorem dL_law_679 : decode cL_law 679 = .ok (.aload_n 0, 1) := by decide +kernel
theorem dL_law_680 : decode cL_law 680 = .ok (.iload 4, 2) := by decide +kernel
theorem dL_law_682 : decode cL_law 682 = .ok (.iconst 1, 1) := by decide +kernel
theorem dL_law_683 : decode cL_law 683 = .ok (.iadd, 1) := by decide +kernel
theorem dL_law_684 : decode cL_law 684 = .ok (.iaload, 1) := by decide +kernel
theorem dL_law_685 : decode cL_law 685 = .ok (.aload_n 0, 1) := by decide +kernel
theorem dL_law_686 : decode cL_law 686 = .ok (.iload 4, 2) := by decide +kernel
theorem dL_law_688 : decode cL_law 688 = .ok (.iconst 2, 1) := by decide +kernel
theorem dL_law_689 : decode cL_law 689 = .ok (.iadd, 1) := by decide +kernel
theorem dL_law_690 : decode cL_law 690 = .ok (.iaload, 1) := by decide +kernel
theorem dL_law_691 : decode cL_law 691 = .ok (.i2l, 1) := by decide +kernel
theorem dL_law_692 : decode cL_law 692 = .ok (.bipush 32, 2) := by decide +kernel
theorem dL_law_694 : decode cL_law 694 = .ok (.lshl, 1) := by decide +kernel
theorem dL_law_695 : decode cL_law 695 = .ok (.aload_n 0, 1) := by decide +kernel
theorem dL_law_696 : decode cL_law 696 = .ok (.iload 4, 2) := by decide +kernel
theorem dL_law_698 : decode cL_law 698 = .ok (.iconst 3, 1) := by decide +kernel
theorem dL_law_699 : decode cL_law 699 = .ok (.iadd, 1) := by decide +kernel
theorem dL_law_700 : decode cL_law 700 = .ok (.iaload, 1) := by decide +kernel
theorem dL_law_701 : decode cL_law 701 = .ok (.i2l, 1) := by decide +kernel
theorem dL_law_702 : decode cL_law 702 = .ok (.ldc2_w 88, 3) := by decide +kernel
theorem dL_law_705 : decode cL_law 705 = .ok (.land, 1) := by decide +kernel
theorem dL_law_706 : decode cL_law 706 = .ok (.lor, 1) := by decide +kernel
theorem dL_law_707 : decode cL_law 707 = .ok (.invokevirtual 90, 3) := by decide +kernel
theorem dL_law_710 : decode cL_law 710 = .ok (.aload_n 2, 1) := by decide +kernel
theorem dL_law_711 : decode cL_law 711 = .ok (.aload_n 0, 1) := by decide +kernel
theorem dL_law_712 : decode cL_law 712 = .ok (.iload 4, 2) := by decide +kernel
theorem dL_law_714 : decode cL_law 714 = .ok (.iconst 1, 1) := by decide +kernel
theorem dL_law_715 : decode cL_law 715 = .ok (.iadd, 1) := by decide +kernel
theorem dL_law_716 : decode cL_law 716 = .ok (.iaload, 1) := by decide +kernel
theorem dL_law_717 : decode cL_law 717 = .ok (.aload_n 0, 1) := by decide +kernel
theorem dL_law_718 : decode cL_law 718 = .ok (.iload 4, 2) := by decide +kernel
theorem dL_law_720 : decode cL_law 720 = .ok (.iconst 2, 1) := by decide +kernel
theorem dL_law_721 : decode cL_law 721 = .ok (.iadd, 1) := by decide +kernel
theorem dL_law_722 : decode cL_law 722 = .ok (.iaload, 1) := by decide +kernel
theorem dL_law_723 : decode cL_law 723 = .ok (.i2l, 1) := by decide +kernel
theorem dL_law_724 : decode cL_law 724 = .ok (.bipush 32, 2) := by decide +kernel
theorem dL_law_726 : decode cL_law 726 = .ok (.lshl, 1) := by decide +kernel
theorem dL_law_727 : decode cL_law 727 = .ok (.aload_n 0, 1) := by decide +kernel
theorem dL_law_728 : decode cL_law 728 = .ok (.iload 4, 2) := by decide +kernel
theorem dL_law_730 : decode cL_law 730 = .ok (.iconst 3, 1) := by decide +kernel
theorem dL_law_731 : decode cL_law 731 = .ok (.iadd, 1) := by decide +kernel
theorem dL_law_732 : decode cL_law 732 = .ok (.iaload, 1) := by decide +kernel
theorem dL_law_733 : decode cL_law 733 = .ok (.i2l, 1) := by decide +kernel
theorem dL_law_734 : decode cL_law 734 = .ok (.ldc2_w 88, 3) := by decide +kernel
theorem dL_law_737 : decode cL_law 737 = .ok (.land, 1) := by decide +kernel
theorem dL_law_738 : decode cL_law 738 = .ok (.lor, 1) := by decide +kernel
theorem dL_law_739 : decode cL_law 739 = .ok (.invokevirtual 94, 3) := by decide +kernel
theorem dL_law_742 : decode cL_law 742 = .ok (.if_icmp .eq 800, 3) := by decide +kernel
theorem dL_law_745 : decode cL_law 745 = .ok (.iconst 0, 1) := by decide +kernel
theorem dL_law_746 : decode cL_law 746 = .ok (.ireturn, 1) := by decide +kernel
theorem dL_law_747 : decode cL_law 747 = .ok (.aload_n 1, 1) := by decide +kernel
theorem dL_law_748 : decode cL_law 748 = .ok (.invokevirtual 95, 3) := by decide +kernel
theorem dL_law_751 : decode cL_law 751 = .ok (.aload_n 2, 1) := by decide +kernel
theorem dL_law_752 : decode cL_law 752 = .ok (.invokevirtual 98, 3) := by decide +kernel
theorem dL_law_755 : decode cL_law 755 = .ok (.if_icmp .eq 787, 3) := by decide +kernel
theorem dL_law_758 : decode cL_law 758 = .ok (.iconst 0, 1) := by decide +kernel
theorem dL_law_759 : decode cL_law 759 = .ok (.ireturn, 1) := by decide +kernel
theorem dL_law_760 : decode cL_law 760 = .ok (.aload_n 1, 1) := by decide +kernel
theorem dL_law_761 : decode cL_law 761 = .ok (.aload_n 0, 1) := by decide +kernel
theorem dL_law_762 : decode cL_law 762 = .ok (.iload 4, 2) := by decide +kernel
theorem dL_law_764 : decode cL_law 764 = .ok (.iconst 1, 1) := by decide +kernel
theorem dL_law_765 : decode cL_law 765 = .ok (.iadd, 1) := by decide +kernel
theorem dL_law_766 : decode cL_law 766 = .ok (.iaload, 1) := by decide +kernel
theorem dL_law_767 : decode cL_law 767 = .ok (.aload_n 0, 1) := by decide +kernel
theorem dL_law_768 : decode cL_law 768 = .ok (.iload 4, 2) := by decide +kernel
theorem dL_law_770 : decode cL_law 770 = .ok (.iconst 2, 1) := by decide +kernel
theorem dL_law_771 : decode cL_law 771 = .ok (.iadd, 1) := by decide +kernel
theorem dL_law_772 : decode cL_law 772 = .ok (.iaload, 1) := by decide +kernel
theorem dL_law_773 : decode cL_law 773 = .ok (.invokevirtual 99, 3) := by decide +kernel
theorem dL_law_776 : decode cL_law 776 = .ok (.aload_n 2, 1) := by decide +kernel
theorem dL_law_777 : decode cL_law 777 = .ok (.aload_n 0, 1) := by decide +kernel
theorem dL_law_778 : decode cL_law 778 = .ok (.iload 4, 2) := by decide +kernel
theorem dL_law_780 : decode cL_law 780 = .ok (.iconst 1, 1) := by decide +kernel
theorem dL_law_781 : decode cL_law 781 = .ok (.iadd, 1) := by decide +kernel
theorem dL_law_782 : decode cL_law 782 = .ok (.iaload, 1) := by decide +kernel
theorem dL_law_783 : decode cL_law 783 = .ok (.aload_n 0, 1) := by decide +kernel
theorem dL_law_784 : decode cL_law 784 = .ok (.iload 4, 2) := by decide +kernel
theorem dL_law_786 : decode cL_law 786 = .ok (.iconst 2, 1) := by decide +kernel
theorem dL_law_787 : decode cL_law 787 = .ok (.iadd, 1) := by decide +kernel
theorem dL_law_788 : decode cL_law 788 = .ok (.iaload, 1) := by decide +kernel
theorem dL_law_789 : decode cL_law 789 = .ok (.invokevirtual 102, 3) := by decide +kernel
theorem dL_law_792 : decode cL_law 792 = .ok (.if_icmp .eq 750, 3) := by decide +kernel
theorem dL_law_795 : decode cL_law 795 = .ok (.iconst 0, 1) := by decide +kernel
theorem dL_law_796 : decode cL_law 796 = .ok (.ireturn, 1) := by decide +kernel
theorem dL_law_797 : decode cL_law 797 = .ok (.aload_n 1, 1) := by decide +kernel
theorem dL_law_798 : decode cL_law 798 = .ok (.aload_n 0, 1) := by decide +kernel
theorem dL_law_799 : decode cL_law 799 = .ok (.iload 4, 2) := by decide +kernel
theorem dL_law_801 : decode cL_law 801 = .ok (.iconst 1, 1) := by decide +kernel
theorem dL_law_802 : decode cL_law 802 = .ok (.iadd, 1) := by decide +kernel
theorem dL_law_803 : decode cL_law 803 = .ok (.iaload, 1) := by decide +kernel
theorem dL_law_804 : decode cL_law 804 = .ok (.aload_n 0, 1) := by decide +kernel
theorem dL_law_805 : decode cL_law 805 = .ok (.iload 4, 2) := by decide +kernel
theorem dL_law_807 : decode cL_law 807 = .ok (.iconst 2, 1) := by decide +kernel
theorem dL_law_808 : decode cL_law 808 = .ok (.iadd, 1) := by decide +kernel
theorem dL_law_809 : decode cL_law 809 = .ok (.iaload, 1) := by decide +kernel
theorem dL_law_810 : decode cL_law 810 = .ok (.aload_n 0, 1) := by decide +kernel
theorem dL_law_811 : decode cL_law 811 = .ok (.iload 4, 2) := by decide +kernel
theorem dL_law_813 : decode cL_law 813 = .ok (.iconst 3, 1) := by decide +kernel
theorem dL_law_814 : decode cL_law 814 = .ok (.iadd, 1) := by decide +kernel
theorem dL_law_815 : decode cL_law 815 = .ok (.iaload, 1) := by decide +kernel
theorem dL_law_816 : decode cL_law 816 = .ok (.invokevirtual 103, 3) := by decide +kernel
theorem dL_law_819 : decode cL_law 819 = .ok (.aload_n 2, 1) := by decide +kernel
theorem dL_law_820 : decode cL_law 820 = .ok (.aload_n 0, 1) := by decide +kernel
theorem dL_law_821 : decode cL_law 821 = .ok (.iload 4, 2) := by decide +kernel
theorem dL_law_823 : decode cL_law 823 = .ok (.iconst 1, 1) := by decide +kernel
theorem dL_law_824 : decode cL_law 824 = .ok (.iadd, 1) := by decide +kernel
theorem dL_law_825 : decode cL_law 825 = .ok (.iaload, 1) := by decide +kernel
theorem dL_law_826 : decode cL_law 826 = .ok (.aload_n 0, 1) := by decide +kernel
theorem dL_law_827 : decode cL_law 827 = .ok (.iload 4, 2) := by decide +kernel
theorem dL_law_829 : decode cL_law 829 = .ok (.iconst 2, 1) := by decide +kernel
theorem dL_law_830 : decode cL_law 830 = .ok (.iadd, 1) := by decide +kernel
theorem dL_law_831 : decode cL_law 831 = .ok (.iaload, 1) := by decide +kernel
theorem dL_law_832 : decode cL_law 832 = .ok (.aload_n 0, 1) := by decide +kernel
theorem dL_law_833 : decode cL_law 833 = .ok (.iload 4, 2) := by decide +kernel
theorem dL_law_835 : decode cL_law 835 = .ok (.iconst 3, 1) := by decide +kernel
theorem dL_law_836 : decode cL_law 836 = .ok (.iadd, 1) := by decide +kernel
theorem dL_law_837 : decode cL_law 837 = .ok (.iaload, 1) := by decide +kernel
theorem dL_law_838 : decode cL_law 838 = .ok (.invokevirtual 107, 3) := by decide +kernel
theorem dL_law_841 : decode cL_law 841 = .ok (.if_icmp .eq 701, 3) := by decide +kernel
theorem dL_law_844 : decode cL_law 844 = .ok (.iconst 0, 1) := by decide +kernel
theorem dL_law_845 : decode cL_law 845 = .ok (.ireturn, 1) := by decide +kernel
theorem dL_law_846 : decode cL_law 846 = .ok (.aload_n 1, 1) := by decide +kernel
theorem dL_law_847 : decode cL_law 847 = .ok (.aload_n 0, 1) := by decide +kernel
theorem dL_law_848 : decode cL_law 848 = .ok (.iload 4, 2) := by decide +kernel
theorem dL_law_850 : decode cL_law 850 = .ok (.iconst 1, 1) := by decide +kernel
theorem dL_law_851 : decode cL_law 851 = .ok (.iadd, 1) := by decide +kernel
theorem dL_law_852 : decode cL_law 852 = .ok (.iaload, 1) := by decide +kernel
theorem dL_law_853 : decode cL_law 853 = .ok (.aload_n 0, 1) := by decide +kernel
theorem dL_law_854 : decode cL_law 854 = .ok (.iload 4, 2) := by decide +kernel
theorem dL_law_856 : decode cL_law 856 = .ok (.iconst 2, 1) := by decide +kernel
theorem dL_law_857 : decode cL_law 857 = .ok (.iadd, 1) := by decide +kernel
theorem dL_law_858 : decode cL_law 858 = .ok (.iaload, 1) := by decide +kernel
theorem dL_law_859 : decode cL_law 859 = .ok (.invokevirtual 108, 3) := by decide +kernel
theorem dL_law_862 : decode cL_law 862 = .ok (.aload_n 2, 1) := by decide +kernel
theorem dL_law_863 : decode cL_law 863 = .ok (.aload_n 0, 1) := by decide +kernel
theorem dL_law_864 : decode cL_law 864 = .ok (.iload 4, 2) := by decide +kernel
theorem dL_law_866 : decode cL_law 866 = .ok (.iconst 1, 1) := by decide +kernel
theorem dL_law_867 : decode cL_law 867 = .ok (.iadd, 1) := by decide +kernel
theorem dL_law_868 : decode cL_law 868 = .ok (.iaload, 1) := by decide +kernel
theorem dL_law_869 : decode cL_law 869 = .ok (.aload_n 0, 1) := by decide +kernel
theorem dL_law_870 : decode cL_law 870 = .ok (.iload 4, 2) := by decide +kernel
theorem dL_law_872 : decode cL_law 872 = .ok (.iconst 2, 1) := by decide +kernel
theorem dL_law_873 : decode cL_law 873 = .ok (.iadd, 1) := by decide +kernel
theorem dL_law_874 : decode cL_law 874 = .ok (.iaload, 1) := by decide +kernel
theorem dL_law_875 : decode cL_law 875 = .ok (.invokevirtual 111, 3) := by decide +kernel
theorem dL_law_878 : decode cL_law 878 = .ok (.if_icmp .eq 664, 3) := by decide +kernel
theorem dL_law_881 : decode cL_law 881 = .ok (.iconst 0, 1) := by decide +kernel
theorem dL_law_882 : decode cL_law 882 = .ok (.ireturn, 1) := by decide +kernel
theorem dL_law_883 : decode cL_law 883 = .ok (.aload_n 1, 1) := by decide +kernel
theorem dL_law_884 : decode cL_law 884 = .ok (.aload_n 0, 1) := by decide +kernel
theorem dL_law_885 : decode cL_law 885 = .ok (.iload 4, 2) := by decide +kernel
theorem dL_law_887 : decode cL_law 887 = .ok (.iconst 1, 1) := by decide +kernel
theorem dL_law_888 : decode cL_law 888 = .ok (.iadd, 1) := by decide +kernel
theorem dL_law_889 : decode cL_law 889 = .ok (.iaload, 1) := by decide +kernel
theorem dL_law_890 : decode cL_law 890 = .ok (.invokevirtual 112, 3) := by decide +kernel
theorem dL_law_893 : decode cL_law 893 = .ok (.aload_n 2, 1) := by decide +kernel
theorem dL_law_894 : decode cL_law 894 = .ok (.aload_n 0, 1) := by decide +kernel
theorem dL_law_895 : decode cL_law 895 = .ok (.iload 4, 2) := by decide +kernel
theorem dL_law_897 : decode cL_law 897 = .ok (.iconst 1, 1) := by decide +kernel
theorem dL_law_898 : decode cL_law 898 = .ok (.iadd, 1) := by decide +kernel
theorem dL_law_899 : decode cL_law 899 = .ok (.iaload, 1) := by decide +kernel
theorem dL_law_900 : decode cL_law 900 = .ok (.invokevirtual 115, 3) := by decide +kernel
theorem dL_law_903 : decode cL_law 903 = .ok (.if_icmp .eq 639, 3) := by decide +kernel
theorem dL_law_906 : decode cL_law 906 = .ok (.iconst 0, 1) := by decide +kernel
theorem dL_law_907 : decode cL_law 907 = .ok (.ireturn, 1) := by decide +kernel
theorem dL_law_908 : decode cL_law 908 = .ok (.aload_n 1, 1) := by decide +kernel
theorem dL_law_909 : decode cL_law 909 = .ok (.aload_n 0, 1) := by decide +kernel
theorem dL_law_910 : decode cL_law 910 = .ok (.iload 4, 2) := by decide +kernel
theorem dL_law_912 : decode cL_law 912 = .ok (.iconst 1, 1) := by decide +kernel
theorem dL_law_913 : decode cL_law 913 = .ok (.iadd, 1) := by decide +kernel
theorem dL_law_914 : decode cL_law 914 = .ok (.iaload, 1) := by decide +kernel
theorem dL_law_915 : decode cL_law 915 = .ok (.aload_n 0, 1) := by decide +kernel
theorem dL_law_916 : decode cL_law 916 = .ok (.iload 4, 2) := by decide +kernel
theorem dL_law_918 : decode cL_law 918 = .ok (.iconst 2, 1) := by decide +kernel
theorem dL_law_919 : decode cL_law 919 = .ok (.iadd, 1) := by decide +kernel
theorem dL_law_920 : decode cL_law 920 = .ok (.iaload, 1) := by decide +kernel
theorem dL_law_921 : decode cL_law 921 = .ok (.invokevirtual 116, 3) := by decide +kernel
theorem dL_law_924 : decode cL_law 924 = .ok (.aload_n 2, 1) := by decide +kernel
theorem dL_law_925 : decode cL_law 925 = .ok (.aload_n 0, 1) := by decide +kernel
theorem dL_law_926 : decode cL_law 926 = .ok (.iload 4, 2) := by decide +kernel
theorem dL_law_928 : decode cL_law 928 = .ok (.iconst 1, 1) := by decide +kernel
theorem dL_law_929 : decode cL_law 929 = .ok (.iadd, 1) := by decide +kernel
theorem dL_law_930 : decode cL_law 930 = .ok (.iaload, 1) := by decide +kernel
theorem dL_law_931 : decode cL_law 931 = .ok (.aload_n 0, 1) := by decide +kernel
theorem dL_law_932 : decode cL_law 932 = .ok (.iload 4, 2) := by decide +kernel
theorem dL_law_934 : decode cL_law 934 = .ok (.iconst 2, 1) := by decide +kernel
theorem dL_law_935 : decode cL_law 935 = .ok (.iadd, 1) := by decide +kernel
theorem dL_law_936 : decode cL_law 936 = .ok (.iaload, 1) := by decide +kernel
theorem dL_law_937 : decode cL_law 937 = .ok (.invokevirtual 119, 3) := by decide +kernel
theorem dL_law_940 : decode cL_law 940 = .ok (.if_icmp .eq 602, 3) := by decide +kernel
theorem dL_law_943 : decode cL_law 943 = .ok (.iconst 0, 1) := by decide +kernel
theorem dL_law_944 : decode cL_law 944 = .ok (.ireturn, 1) := by decide +kernel
theorem dL_law_945 : decode cL_law 945 = .ok (.aload_n 1, 1) := by decide +kernel
theorem dL_law_946 : decode cL_law 946 = .ok (.aload_n 0, 1) := by decide +kernel
theorem dL_law_947 : decode cL_law 947 = .ok (.iload 4, 2) := by decide +kernel
theorem dL_law_949 : decode cL_law 949 = .ok (.iconst 1, 1) := by decide +kernel
theorem dL_law_950 : decode cL_law 950 = .ok (.iadd, 1) := by decide +kernel
theorem dL_law_951 : decode cL_law 951 = .ok (.iaload, 1) := by decide +kernel
theorem dL_law_952 : decode cL_law 952 = .ok (.invokevirtual 120, 3) := by decide +kernel
theorem dL_law_955 : decode cL_law 955 = .ok (.aload_n 2, 1) := by decide +kernel
theorem dL_law_956 : decode cL_law 956 = .ok (.aload_n 0, 1) := by decide +kernel
theorem dL_law_957 : decode cL_law 957 = .ok (.iload 4, 2) := by decide +kernel
theorem dL_law_959 : decode cL_law 959 = .ok (.iconst 1, 1) := by decide +kernel
theorem dL_law_960 : decode cL_law 960 = .ok (.iadd, 1) := by decide +kernel
theorem dL_law_961 : decode cL_law 961 = .ok (.iaload, 1) := by decide +kernel
theorem dL_law_962 : decode cL_law 962 = .ok (.invokevirtual 123, 3) := by decide +kernel
theorem dL_law_965 : decode cL_law 965 = .ok (.if_icmp .eq 577, 3) := by decide +kernel
theorem dL_law_968 : decode cL_law 968 = .ok (.iconst 0, 1) := by decide +kernel
theorem dL_law_969 : decode cL_law 969 = .ok (.ireturn, 1) := by decide +kernel
theorem dL_law_970 : decode cL_law 970 = .ok (.aload_n 1, 1) := by decide +kernel
theorem dL_law_971 : decode cL_law 971 = .ok (.aload_n 0, 1) := by decide +kernel
theorem dL_law_972 : decode cL_law 972 = .ok (.iload 4, 2) := by decide +kernel
theorem dL_law_974 : decode cL_law 974 = .ok (.iconst 1, 1) := by decide +kernel
theorem dL_law_975 : decode cL_law 975 = .ok (.iadd, 1) := by decide +kernel
theorem dL_law_976 : decode cL_law 976 = .ok (.iaload, 1) := by decide +kernel
theorem dL_law_977 : decode cL_law 977 = .ok (.invokevirtual 124, 3) := by decide +kernel
theorem dL_law_980 : decode cL_law 980 = .ok (.aload_n 2, 1) := by decide +kernel
theorem dL_law_981 : decode cL_law 981 = .ok (.aload_n 0, 1) := by decide +kernel
theorem dL_law_982 : decode cL_law 982 = .ok (.iload 4, 2) := by decide +kernel
theorem dL_law_984 : decode cL_law 984 = .ok (.iconst 1, 1) := by decide +kernel
theorem dL_law_985 : decode cL_law 985 = .ok (.iadd, 1) := by decide +kernel
theorem dL_law_986 : decode cL_law 986 = .ok (.iaload, 1) := by decide +kernel
theorem dL_law_987 : decode cL_law 987 = .ok (.invokevirtual 127, 3) := by decide +kernel
theorem dL_law_990 : decode cL_law 990 = .ok (.if_icmp .eq 552, 3) := by decide +kernel
theorem dL_law_993 : decode cL_law 993 = .ok (.iconst 0, 1) := by decide +kernel
theorem dL_law_994 : decode cL_law 994 = .ok (.ireturn, 1) := by decide +kernel
theorem dL_law_995 : decode cL_law 995 = .ok (.aload_n 1, 1) := by decide +kernel
theorem dL_law_996 : decode cL_law 996 = .ok (.aload_n 0, 1) := by decide +kernel
theorem dL_law_997 : decode cL_law 997 = .ok (.iload 4, 2) := by decide +kernel
theorem dL_law_999 : decode cL_law 999 = .ok (.iconst 1, 1) := by decide +kernel
theorem dL_law_1000 : decode cL_law 1000 = .ok (.iadd, 1) := by decide +kernel
theorem dL_law_1001 : decode cL_law 1001 = .ok (.iaload, 1) := by decide +kernel
theorem dL_law_1002 : decode cL_law 1002 = .ok (.aload_n 0, 1) := by decide +kernel
theorem dL_law_1003 : decode cL_law 1003 = .ok (.iload 4, 2) := by decide +kernel
theorem dL_law_1005 : decode cL_law 1005 = .ok (.iconst 2, 1) := by decide +kernel
theorem dL_law_1006 : decode cL_law 1006 = .ok (.iadd, 1) := by decide +kernel
theorem dL_law_1007 : decode cL_law 1007 = .ok (.iaload, 1) := by decide +kernel
theorem dL_law_1008 : decode cL_law 1008 = .ok (.invokevirtual 128, 3) := by decide +kernel
theorem dL_law_1011 : decode cL_law 1011 = .ok (.aload_n 2, 1) := by decide +kernel
theorem dL_law_1012 : decode cL_law 1012 = .ok (.aload_n 0, 1) := by decide +kernel
theorem dL_law_1013 : decode cL_law 1013 = .ok (.iload 4, 2) := by decide +kernel
theorem dL_law_1015 : decode cL_law 1015 = .ok (.iconst 1, 1) := by decide +kernel
theorem dL_law_1016 : decode cL_law 1016 = .ok (.iadd, 1) := by decide +kernel
theorem dL_law_1017 : decode cL_law 1017 = .ok (.iaload, 1) := by decide +kernel
theorem dL_law_1018 : decode cL_law 1018 = .ok (.aload_n 0, 1) := by decide +kernel
theorem dL_law_1019 : decode cL_law 1019 = .ok (.iload 4, 2) := by decide +kernel
theorem dL_law_1021 : decode cL_law 1021 = .ok (.iconst 2, 1) := by decide +kernel
theorem dL_law_1022 : decode cL_law 1022 = .ok (.iadd, 1) := by decide +kernel
theorem dL_law_1023 : decode cL_law 1023 = .ok (.iaload, 1) := by decide +kernel
theorem dL_law_1024 : decode cL_law 1024 = .ok (.invokevirtual 131, 3) := by decide +kernel
theorem dL_law_1027 : decode cL_law 1027 = .ok (.if_icmp .eq 515, 3) := by decide +kernel
theorem dL_law_1030 : decode cL_law 1030 = .ok (.iconst 0, 1) := by decide +kernel
theorem dL_law_1031 : decode cL_law 1031 = .ok (.ireturn, 1) := by decide +kernel
theorem dL_law_1032 : decode cL_law 1032 = .ok (.aload_n 1, 1) := by decide +kernel
theorem dL_law_1033 : decode cL_law 1033 = .ok (.aload_n 0, 1) := by decide +kernel
theorem dL_law_1034 : decode cL_law 1034 = .ok (.iload 4, 2) := by decide +kernel
theorem dL_law_1036 : decode cL_law 1036 = .ok (.iconst 1, 1) := by decide +kernel
theorem dL_law_1037 : decode cL_law 1037 = .ok (.iadd, 1) := by decide +kernel
theorem dL_law_1038 : decode cL_law 1038 = .ok (.iaload, 1) := by decide +kernel
theorem dL_law_1039 : decode cL_law 1039 = .ok (.invokevirtual 132, 3) := by decide +kernel
theorem dL_law_1042 : decode cL_law 1042 = .ok (.aload_n 2, 1) := by decide +kernel
theorem dL_law_1043 : decode cL_law 1043 = .ok (.aload_n 0, 1) := by decide +kernel
theorem dL_law_1044 : decode cL_law 1044 = .ok (.iload 4, 2) := by decide +kernel
theorem dL_law_1046 : decode cL_law 1046 = .ok (.iconst 1, 1) := by decide +kernel
theorem dL_law_1047 : decode cL_law 1047 = .ok (.iadd, 1) := by decide +kernel
theorem dL_law_1048 : decode cL_law 1048 = .ok (.iaload, 1) := by decide +kernel
theorem dL_law_1049 : decode cL_law 1049 = .ok (.invokevirtual 135, 3) := by decide +kernel
theorem dL_law_1052 : decode cL_law 1052 = .ok (.if_icmp .eq 490, 3) := by decide +kernel
theorem dL_law_1055 : decode cL_law 1055 = .ok (.iconst 0, 1) := by decide +kernel
theorem dL_law_1056 : decode cL_law 1056 = .ok (.ireturn, 1) := by decide +kernel
theorem dL_law_1057 : decode cL_law 1057 = .ok (.aload_n 1, 1) := by decide +kernel
theorem dL_law_1058 : decode cL_law 1058 = .ok (.aload_n 0, 1) := by decide +kernel
theorem dL_law_1059 : decode cL_law 1059 = .ok (.iload 4, 2) := by decide +kernel
theorem dL_law_1061 : decode cL_law 1061 = .ok (.iconst 1, 1) := by decide +kernel
theorem dL_law_1062 : decode cL_law 1062 = .ok (.iadd, 1) := by decide +kernel
theorem dL_law_1063 : decode cL_law 1063 = .ok (.iaload, 1) := by decide +kernel
theorem dL_law_1064 : decode cL_law 1064 = .ok (.aload_n 0, 1) := by decide +kernel
theorem dL_law_1065 : decode cL_law 1065 = .ok (.iload 4, 2) := by decide +kernel
theorem dL_law_1067 : decode cL_law 1067 = .ok (.iconst 2, 1) := by decide +kernel
theorem dL_law_1068 : decode cL_law 1068 = .ok (.iadd, 1) := by decide +kernel
theorem dL_law_1069 : decode cL_law 1069 = .ok (.iaload, 1) := by decide +kernel
theorem dL_law_1070 : decode cL_law 1070 = .ok (.aload_n 0, 1) := by decide +kernel
theorem dL_law_1071 : decode cL_law 1071 = .ok (.iload 4, 2) := by decide +kernel
theorem dL_law_1073 : decode cL_law 1073 = .ok (.iconst 3, 1) := by decide +kernel
theorem dL_law_1074 : decode cL_law 1074 = .ok (.iadd, 1) := by decide +kernel
theorem dL_law_1075 : decode cL_law 1075 = .ok (.iaload, 1) := by decide +kernel
theorem dL_law_1076 : decode cL_law 1076 = .ok (.aload_n 0, 1) := by decide +kernel
theorem dL_law_1077 : decode cL_law 1077 = .ok (.iload 4, 2) := by decide +kernel
theorem dL_law_1079 : decode cL_law 1079 = .ok (.iconst 4, 1) := by decide +kernel
theorem dL_law_1080 : decode cL_law 1080 = .ok (.iadd, 1) := by decide +kernel
theorem dL_law_1081 : decode cL_law 1081 = .ok (.iaload, 1) := by decide +kernel
theorem dL_law_1082 : decode cL_law 1082 = .ok (.aload_n 0, 1) := by decide +kernel
theorem dL_law_1083 : decode cL_law 1083 = .ok (.iload 4, 2) := by decide +kernel
theorem dL_law_1085 : decode cL_law 1085 = .ok (.iconst 5, 1) := by decide +kernel
theorem dL_law_1086 : decode cL_law 1086 = .ok (.iadd, 1) := by decide +kernel
theorem dL_law_1087 : decode cL_law 1087 = .ok (.iaload, 1) := by decide +kernel
theorem dL_law_1088 : decode cL_law 1088 = .ok (.ifCond .eq 7, 3) := by decide +kernel
theorem dL_law_1091 : decode cL_law 1091 = .ok (.iconst 1, 1) := by decide +kernel
theorem dL_law_1092 : decode cL_law 1092 = .ok (.goto 4, 3) := by decide +kernel
theorem dL_law_1095 : decode cL_law 1095 = .ok (.iconst 0, 1) := by decide +kernel
theorem dL_law_1096 : decode cL_law 1096 = .ok (.invokevirtual 136, 3) := by decide +kernel
theorem dL_law_1099 : decode cL_law 1099 = .ok (.aload_n 2, 1) := by decide +kernel
theorem dL_law_1100 : decode cL_law 1100 = .ok (.aload_n 0, 1) := by decide +kernel
theorem dL_law_1101 : decode cL_law 1101 = .ok (.iload 4, 2) := by decide +kernel
theorem dL_law_1103 : decode cL_law 1103 = .ok (.iconst 1, 1) := by decide +kernel
theorem dL_law_1104 : decode cL_law 1104 = .ok (.iadd, 1) := by decide +kernel
theorem dL_law_1105 : decode cL_law 1105 = .ok (.iaload, 1) := by decide +kernel
theorem dL_law_1106 : decode cL_law 1106 = .ok (.aload_n 0, 1) := by decide +kernel
theorem dL_law_1107 : decode cL_law 1107 = .ok (.iload 4, 2) := by decide +kernel
theorem dL_law_1109 : decode cL_law 1109 = .ok (.iconst 2, 1) := by decide +kernel
theorem dL_law_1110 : decode cL_law 1110 = .ok (.iadd, 1) := by decide +kernel
theorem dL_law_1111 : decode cL_law 1111 = .ok (.iaload, 1) := by decide +kernel
theorem dL_law_1112 : decode cL_law 1112 = .ok (.aload_n 0, 1) := by decide +kernel
theorem dL_law_1113 : decode cL_law 1113 = .ok (.iload 4, 2) := by decide +kernel
theorem dL_law_1115 : decode cL_law 1115 = .ok (.iconst 3, 1) := by decide +kernel
theorem dL_law_1116 : decode cL_law 1116 = .ok (.iadd, 1) := by decide +kernel
theorem dL_law_1117 : decode cL_law 1117 = .ok (.iaload, 1) := by decide +kernel
theorem dL_law_1118 : decode cL_law 1118 = .ok (.aload_n 0, 1) := by decide +kernel
theorem dL_law_1119 : decode cL_law 1119 = .ok (.iload 4, 2) := by decide +kernel
theorem dL_law_1121 : decode cL_law 1121 = .ok (.iconst 4, 1) := by decide +kernel
theorem dL_law_1122 : decode cL_law 1122 = .ok (.iadd, 1) := by decide +kernel
theorem dL_law_1123 : decode cL_law 1123 = .ok (.iaload, 1) := by decide +kernel
theorem dL_law_1124 : decode cL_law 1124 = .ok (.aload_n 0, 1) := by decide +kernel
theorem dL_law_1125 : decode cL_law 1125 = .ok (.iload 4, 2) := by decide +kernel
theorem dL_law_1127 : decode cL_law 1127 = .ok (.iconst 5, 1) := by decide +kernel
theorem dL_law_1128 : decode cL_law 1128 = .ok (.iadd, 1) := by decide +kernel
theorem dL_law_1129 : decode cL_law 1129 = .ok (.iaload, 1) := by decide +kernel
theorem dL_law_1130 : decode cL_law 1130 = .ok (.ifCond .eq 7, 3) := by decide +kernel
theorem dL_law_1133 : decode cL_law 1133 = .ok (.iconst 1, 1) := by decide +kernel
theorem dL_law_1134 : decode cL_law 1134 = .ok (.goto 4, 3) := by decide +kernel
theorem dL_law_1137 : decode cL_law 1137 = .ok (.iconst 0, 1) := by decide +kernel
theorem dL_law_1138 : decode cL_law 1138 = .ok (.invokevirtual 140, 3) := by decide +kernel
theorem dL_law_1141 : decode cL_law 1141 = .ok (.if_icmp .eq 401, 3) := by decide +kernel
theorem dL_law_1144 : decode cL_law 1144 = .ok (.iconst 0, 1) := by decide +kernel
theorem dL_law_1145 : decode cL_law 1145 = .ok (.ireturn, 1) := by decide +kernel
theorem dL_law_1146 : decode cL_law 1146 = .ok (.aload_n 1, 1) := by decide +kernel
theorem dL_law_1147 : decode cL_law 1147 = .ok (.aload_n 0, 1) := by decide +kernel
theorem dL_law_1148 : decode cL_law 1148 = .ok (.iload 4, 2) := by decide +kernel
theorem dL_law_1150 : decode cL_law 1150 = .ok (.iconst 1, 1) := by decide +kernel
theorem dL_law_1151 : decode cL_law 1151 = .ok (.iadd, 1) := by decide +kernel
theorem dL_law_1152 : decode cL_law 1152 = .ok (.iaload, 1) := by decide +kernel
theorem dL_law_1153 : decode cL_law 1153 = .ok (.invokevirtual 141, 3) := by decide +kernel
theorem dL_law_1156 : decode cL_law 1156 = .ok (.aload_n 2, 1) := by decide +kernel
theorem dL_law_1157 : decode cL_law 1157 = .ok (.aload_n 0, 1) := by decide +kernel
theorem dL_law_1158 : decode cL_law 1158 = .ok (.iload 4, 2) := by decide +kernel
theorem dL_law_1160 : decode cL_law 1160 = .ok (.iconst 1, 1) := by decide +kernel
theorem dL_law_1161 : decode cL_law 1161 = .ok (.iadd, 1) := by decide +kernel
theorem dL_law_1162 : decode cL_law 1162 = .ok (.iaload, 1) := by decide +kernel
theorem dL_law_1163 : decode cL_law 1163 = .ok (.invokevirtual 144, 3) := by decide +kernel
theorem dL_law_1166 : decode cL_law 1166 = .ok (.if_icmp .eq 376, 3) := by decide +kernel
theorem dL_law_1169 : decode cL_law 1169 = .ok (.iconst 0, 1) := by decide +kernel
theorem dL_law_1170 : decode cL_law 1170 = .ok (.ireturn, 1) := by decide +kernel
theorem dL_law_1171 : decode cL_law 1171 = .ok (.aload_n 1, 1) := by decide +kernel
theorem dL_law_1172 : decode cL_law 1172 = .ok (.aload_n 0, 1) := by decide +kernel
theorem dL_law_1173 : decode cL_law 1173 = .ok (.iload 4, 2) := by decide +kernel
theorem dL_law_1175 : decode cL_law 1175 = .ok (.iconst 1, 1) := by decide +kernel
theorem dL_law_1176 : decode cL_law 1176 = .ok (.iadd, 1) := by decide +kernel
theorem dL_law_1177 : decode cL_law 1177 = .ok (.iaload, 1) := by decide +kernel
theorem dL_law_1178 : decode cL_law 1178 = .ok (.aload_n 0, 1) := by decide +kernel
theorem dL_law_1179 : decode cL_law 1179 = .ok (.iload 4, 2) := by decide +kernel
theorem dL_law_1181 : decode cL_law 1181 = .ok (.iconst 2, 1) := by decide +kernel
theorem dL_law_1182 : decode cL_law 1182 = .ok (.iadd, 1) := by decide +kernel
theorem dL_law_1183 : decode cL_law 1183 = .ok (.iaload, 1) := by decide +kernel
theorem dL_law_1184 : decode cL_law 1184 = .ok (.aload_n 0, 1) := by decide +kernel
theorem dL_law_1185 : decode cL_law 1185 = .ok (.iload 4, 2) := by decide +kernel
theorem dL_law_1187 : decode cL_law 1187 = .ok (.iconst 3, 1) := by decide +kernel
theorem dL_law_1188 : decode cL_law 1188 = .ok (.iadd, 1) := by decide +kernel
theorem dL_law_1189 : decode cL_law 1189 = .ok (.iaload, 1) := by decide +kernel
theorem dL_law_1190 : decode cL_law 1190 = .ok (.invokevirtual 145, 3) := by decide +kernel
theorem dL_law_1193 : decode cL_law 1193 = .ok (.aload_n 2, 1) := by decide +kernel
theorem dL_law_1194 : decode cL_law 1194 = .ok (.aload_n 0, 1) := by decide +kernel
theorem dL_law_1195 : decode cL_law 1195 = .ok (.iload 4, 2) := by decide +kernel
theorem dL_law_1197 : decode cL_law 1197 = .ok (.iconst 1, 1) := by decide +kernel
theorem dL_law_1198 : decode cL_law 1198 = .ok (.iadd, 1) := by decide +kernel
theorem dL_law_1199 : decode cL_law 1199 = .ok (.iaload, 1) := by decide +kernel
theorem dL_law_1200 : decode cL_law 1200 = .ok (.aload_n 0, 1) := by decide +kernel
theorem dL_law_1201 : decode cL_law 1201 = .ok (.iload 4, 2) := by decide +kernel
theorem dL_law_1203 : decode cL_law 1203 = .ok (.iconst 2, 1) := by decide +kernel
theorem dL_law_1204 : decode cL_law 1204 = .ok (.iadd, 1) := by decide +kernel
theorem dL_law_1205 : decode cL_law 1205 = .ok (.iaload, 1) := by decide +kernel
theorem dL_law_1206 : decode cL_law 1206 = .ok (.aload_n 0, 1) := by decide +kernel
theorem dL_law_1207 : decode cL_law 1207 = .ok (.iload 4, 2) := by decide +kernel
theorem dL_law_1209 : decode cL_law 1209 = .ok (.iconst 3, 1) := by decide +kernel
theorem dL_law_1210 : decode cL_law 1210 = .ok (.iadd, 1) := by decide +kernel
theorem dL_law_1211 : decode cL_law 1211 = .ok (.iaload, 1) := by decide +kernel
theorem dL_law_1212 : decode cL_law 1212 = .ok (.invokevirtual 148, 3) := by decide +kernel
theorem dL_law_1215 : decode cL_law 1215 = .ok (.if_icmp .eq 327, 3) := by decide +kernel
theorem dL_law_1218 : decode cL_law 1218 = .ok (.iconst 0, 1) := by decide +kernel
theorem dL_law_1219 : decode cL_law 1219 = .ok (.ireturn, 1) := by decide +kernel
theorem dL_law_1220 : decode cL_law 1220 = .ok (.aload_n 1, 1) := by decide +kernel
theorem dL_law_1221 : decode cL_law 1221 = .ok (.aload_n 0, 1) := by decide +kernel
theorem dL_law_1222 : decode cL_law 1222 = .ok (.iload 4, 2) := by decide +kernel
theorem dL_law_1224 : decode cL_law 1224 = .ok (.iconst 1, 1) := by decide +kernel
theorem dL_law_1225 : decode cL_law 1225 = .ok (.iadd, 1) := by decide +kernel
theorem dL_law_1226 : decode cL_law 1226 = .ok (.iaload, 1) := by decide +kernel
theorem dL_law_1227 : decode cL_law 1227 = .ok (.invokevirtual 149, 3) := by decide +kernel
theorem dL_law_1230 : decode cL_law 1230 = .ok (.aload_n 2, 1) := by decide +kernel
theorem dL_law_1231 : decode cL_law 1231 = .ok (.aload_n 0, 1) := by decide +kernel
theorem dL_law_1232 : decode cL_law 1232 = .ok (.iload 4, 2) := by decide +kernel
theorem dL_law_1234 : decode cL_law 1234 = .ok (.iconst 1, 1) := by decide +kernel
theorem dL_law_1235 : decode cL_law 1235 = .ok (.iadd, 1) := by decide +kernel
theorem dL_law_1236 : decode cL_law 1236 = .ok (.iaload, 1) := by decide +kernel
theorem dL_law_1237 : decode cL_law 1237 = .ok (.invokevirtual 152, 3) := by decide +kernel
theorem dL_law_1240 : decode cL_law 1240 = .ok (.if_icmp .eq 302, 3) := by decide +kernel
theorem dL_law_1243 : decode cL_law 1243 = .ok (.iconst 0, 1) := by decide +kernel
theorem dL_law_1244 : decode cL_law 1244 = .ok (.ireturn, 1) := by decide +kernel
theorem dL_law_1245 : decode cL_law 1245 = .ok (.aload_n 1, 1) := by decide +kernel
theorem dL_law_1246 : decode cL_law 1246 = .ok (.aload_n 0, 1) := by decide +kernel
theorem dL_law_1247 : decode cL_law 1247 = .ok (.iload 4, 2) := by decide +kernel
theorem dL_law_1249 : decode cL_law 1249 = .ok (.iconst 1, 1) := by decide +kernel
theorem dL_law_1250 : decode cL_law 1250 = .ok (.iadd, 1) := by decide +kernel
theorem dL_law_1251 : decode cL_law 1251 = .ok (.iaload, 1) := by decide +kernel
theorem dL_law_1252 : decode cL_law 1252 = .ok (.aload_n 0, 1) := by decide +kernel
theorem dL_law_1253 : decode cL_law 1253 = .ok (.iload 4, 2) := by decide +kernel
theorem dL_law_1255 : decode cL_law 1255 = .ok (.iconst 2, 1) := by decide +kernel
theorem dL_law_1256 : decode cL_law 1256 = .ok (.iadd, 1) := by decide +kernel
theorem dL_law_1257 : decode cL_law 1257 = .ok (.iaload, 1) := by decide +kernel
theorem dL_law_1258 : decode cL_law 1258 = .ok (.aload_n 0, 1) := by decide +kernel
theorem dL_law_1259 : decode cL_law 1259 = .ok (.iload 4, 2) := by decide +kernel
theorem dL_law_1261 : decode cL_law 1261 = .ok (.iconst 3, 1) := by decide +kernel
theorem dL_law_1262 : decode cL_law 1262 = .ok (.iadd, 1) := by decide +kernel
theorem dL_law_1263 : decode cL_law 1263 = .ok (.iaload, 1) := by decide +kernel
theorem dL_law_1264 : decode cL_law 1264 = .ok (.aload_n 0, 1) := by decide +kernel
theorem dL_law_1265 : decode cL_law 1265 = .ok (.iload 4, 2) := by decide +kernel
theorem dL_law_1267 : decode cL_law 1267 = .ok (.iconst 4, 1) := by decide +kernel
theorem dL_law_1268 : decode cL_law 1268 = .ok (.iadd, 1) := by decide +kernel
theorem dL_law_1269 : decode cL_law 1269 = .ok (.iaload, 1) := by decide +kernel
theorem dL_law_1270 : decode cL_law 1270 = .ok (.aload_n 0, 1) := by decide +kernel
theorem dL_law_1271 : decode cL_law 1271 = .ok (.iload 4, 2) := by decide +kernel
theorem dL_law_1273 : decode cL_law 1273 = .ok (.iconst 5, 1) := by decide +kernel
theorem dL_law_1274 : decode cL_law 1274 = .ok (.iadd, 1) := by decide +kernel
theorem dL_law_1275 : decode cL_law 1275 = .ok (.iaload, 1) := by decide +kernel
theorem dL_law_1276 : decode cL_law 1276 = .ok (.invokevirtual 153, 3) := by decide +kernel
theorem dL_law_1279 : decode cL_law 1279 = .ok (.aload_n 2, 1) := by decide +kernel
theorem dL_law_1280 : decode cL_law 1280 = .ok (.aload_n 0, 1) := by decide +kernel
theorem dL_law_1281 : decode cL_law 1281 = .ok (.iload 4, 2) := by decide +kernel
theorem dL_law_1283 : decode cL_law 1283 = .ok (.iconst 1, 1) := by decide +kernel
theorem dL_law_1284 : decode cL_law 1284 = .ok (.iadd, 1) := by decide +kernel
theorem dL_law_1285 : decode cL_law 1285 = .ok (.iaload, 1) := by decide +kernel
theorem dL_law_1286 : decode cL_law 1286 = .ok (.aload_n 0, 1) := by decide +kernel
theorem dL_law_1287 : decode cL_law 1287 = .ok (.iload 4, 2) := by decide +kernel
theorem dL_law_1289 : decode cL_law 1289 = .ok (.iconst 2, 1) := by decide +kernel
theorem dL_law_1290 : decode cL_law 1290 = .ok (.iadd, 1) := by decide +kernel
theorem dL_law_1291 : decode cL_law 1291 = .ok (.iaload, 1) := by decide +kernel
theorem dL_law_1292 : decode cL_law 1292 = .ok (.aload_n 0, 1) := by decide +kernel
theorem dL_law_1293 : decode cL_law 1293 = .ok (.iload 4, 2) := by decide +kernel
theorem dL_law_1295 : decode cL_law 1295 = .ok (.iconst 3, 1) := by decide +kernel
theorem dL_law_1296 : decode cL_law 1296 = .ok (.iadd, 1) := by decide +kernel
theorem dL_law_1297 : decode cL_law 1297 = .ok (.iaload, 1) := by decide +kernel
theorem dL_law_1298 : decode cL_law 1298 = .ok (.aload_n 0, 1) := by decide +kernel
theorem dL_law_1299 : decode cL_law 1299 = .ok (.iload 4, 2) := by decide +kernel
theorem dL_law_1301 : decode cL_law 1301 = .ok (.iconst 4, 1) := by decide +kernel
theorem dL_law_1302 : decode cL_law 1302 = .ok (.iadd, 1) := by decide +kernel
theorem dL_law_1303 : decode cL_law 1303 = .ok (.iaload, 1) := by decide +kernel
theorem dL_law_1304 : decode cL_law 1304 = .ok (.aload_n 0, 1) := by decide +kernel
theorem dL_law_1305 : decode cL_law 1305 = .ok (.iload 4, 2) := by decide +kernel
theorem dL_law_1307 : decode cL_law 1307 = .ok (.iconst 5, 1) := by decide +kernel
theorem dL_law_1308 : decode cL_law 1308 = .ok (.iadd, 1) := by decide +kernel
theorem dL_law_1309 : decode cL_law 1309 = .ok (.iaload, 1) := by decide +kernel
theorem dL_law_1310 : decode cL_law 1310 = .ok (.invokevirtual 156, 3) := by decide +kernel
theorem dL_law_1313 : decode cL_law 1313 = .ok (.if_icmp .eq 229, 3) := by decide +kernel
theorem dL_law_1316 : decode cL_law 1316 = .ok (.iconst 0, 1) := by decide +kernel
theorem dL_law_1317 : decode cL_law 1317 = .ok (.ireturn, 1) := by decide +kernel
theorem dL_law_1318 : decode cL_law 1318 = .ok (.aload_n 1, 1) := by decide +kernel
theorem dL_law_1319 : decode cL_law 1319 = .ok (.aload_n 0, 1) := by decide +kernel
theorem dL_law_1320 : decode cL_law 1320 = .ok (.iload 4, 2) := by decide +kernel
theorem dL_law_1322 : decode cL_law 1322 = .ok (.iconst 1, 1) := by decide +kernel
theorem dL_law_1323 : decode cL_law 1323 = .ok (.iadd, 1) := by decide +kernel
theorem dL_law_1324 : decode cL_law 1324 = .ok (.iaload, 1) := by decide +kernel
theorem dL_law_1325 : decode cL_law 1325 = .ok (.aload_n 0, 1) := by decide +kernel
theorem dL_law_1326 : decode cL_law 1326 = .ok (.iload 4, 2) := by decide +kernel
theorem dL_law_1328 : decode cL_law 1328 = .ok (.iconst 2, 1) := by decide +kernel
theorem dL_law_1329 : decode cL_law 1329 = .ok (.iadd, 1) := by decide +kernel
theorem dL_law_1330 : decode cL_law 1330 = .ok (.iaload, 1) := by decide +kernel
theorem dL_law_1331 : decode cL_law 1331 = .ok (.aload_n 0, 1) := by decide +kernel
theorem dL_law_1332 : decode cL_law 1332 = .ok (.iload 4, 2) := by decide +kernel
theorem dL_law_1334 : decode cL_law 1334 = .ok (.iconst 3, 1) := by decide +kernel
theorem dL_law_1335 : decode cL_law 1335 = .ok (.iadd, 1) := by decide +kernel
theorem dL_law_1336 : decode cL_law 1336 = .ok (.iaload, 1) := by decide +kernel
theorem dL_law_1337 : decode cL_law 1337 = .ok (.invokevirtual 157, 3) := by decide +kernel
theorem dL_law_1340 : decode cL_law 1340 = .ok (.aload_n 2, 1) := by decide +kernel
theorem dL_law_1341 : decode cL_law 1341 = .ok (.aload_n 0, 1) := by decide +kernel
theorem dL_law_1342 : decode cL_law 1342 = .ok (.iload 4, 2) := by decide +kernel
theorem dL_law_1344 : decode cL_law 1344 = .ok (.iconst 1, 1) := by decide +kernel
theorem dL_law_1345 : decode cL_law 1345 = .ok (.iadd, 1) := by decide +kernel
theorem dL_law_1346 : decode cL_law 1346 = .ok (.iaload, 1) := by decide +kernel
theorem dL_law_1347 : decode cL_law 1347 = .ok (.aload_n 0, 1) := by decide +kernel
theorem dL_law_1348 : decode cL_law 1348 = .ok (.iload 4, 2) := by decide +kernel
theorem dL_law_1350 : decode cL_law 1350 = .ok (.iconst 2, 1) := by decide +kernel
theorem dL_law_1351 : decode cL_law 1351 = .ok (.iadd, 1) := by decide +kernel
theorem dL_law_1352 : decode cL_law 1352 = .ok (.iaload, 1) := by decide +kernel
theorem dL_law_1353 : decode cL_law 1353 = .ok (.aload_n 0, 1) := by decide +kernel
theorem dL_law_1354 : decode cL_law 1354 = .ok (.iload 4, 2) := by decide +kernel
theorem dL_law_1356 : decode cL_law 1356 = .ok (.iconst 3, 1) := by decide +kernel
theorem dL_law_1357 : decode cL_law 1357 = .ok (.iadd, 1) := by decide +kernel
theorem dL_law_1358 : decode cL_law 1358 = .ok (.iaload, 1) := by decide +kernel
theorem dL_law_1359 : decode cL_law 1359 = .ok (.invokevirtual 160, 3) := by decide +kernel
theorem dL_law_1362 : decode cL_law 1362 = .ok (.if_icmp .eq 180, 3) := by decide +kernel
theorem dL_law_1365 : decode cL_law 1365 = .ok (.iconst 0, 1) := by decide +kernel
theorem dL_law_1366 : decode cL_law 1366 = .ok (.ireturn, 1) := by decide +kernel
theorem dL_law_1367 : decode cL_law 1367 = .ok (.aload_n 1, 1) := by decide +kernel
theorem dL_law_1368 : decode cL_law 1368 = .ok (.aload_n 0, 1) := by decide +kernel
theorem dL_law_1369 : decode cL_law 1369 = .ok (.iload 4, 2) := by decide +kernel
theorem dL_law_1371 : decode cL_law 1371 = .ok (.iconst 1, 1) := by decide +kernel
theorem dL_law_1372 : decode cL_law 1372 = .ok (.iadd, 1) := by decide +kernel
theorem dL_law_1373 : decode cL_law 1373 = .ok (.iaload, 1) := by decide +kernel
theorem dL_law_1374 : decode cL_law 1374 = .ok (.aload_n 0, 1) := by decide +kernel
theorem dL_law_1375 : decode cL_law 1375 = .ok (.iload 4, 2) := by decide +kernel
theorem dL_law_1377 : decode cL_law 1377 = .ok (.iconst 2, 1) := by decide +kernel
theorem dL_law_1378 : decode cL_law 1378 = .ok (.iadd, 1) := by decide +kernel
theorem dL_law_1379 : decode cL_law 1379 = .ok (.iaload, 1) := by decide +kernel
theorem dL_law_1380 : decode cL_law 1380 = .ok (.aload_n 0, 1) := by decide +kernel
theorem dL_law_1381 : decode cL_law 1381 = .ok (.iload 4, 2) := by decide +kernel
theorem dL_law_1383 : decode cL_law 1383 = .ok (.iconst 3, 1) := by decide +kernel
theorem dL_law_1384 : decode cL_law 1384 = .ok (.iadd, 1) := by decide +kernel
theorem dL_law_1385 : decode cL_law 1385 = .ok (.iaload, 1) := by decide +kernel
theorem dL_law_1386 : decode cL_law 1386 = .ok (.invokevirtual 161, 3) := by decide +kernel
theorem dL_law_1389 : decode cL_law 1389 = .ok (.aload_n 2, 1) := by decide +kernel
theorem dL_law_1390 : decode cL_law 1390 = .ok (.aload_n 0, 1) := by decide +kernel
theorem dL_law_1391 : decode cL_law 1391 = .ok (.iload 4, 2) := by decide +kernel
theorem dL_law_1393 : decode cL_law 1393 = .ok (.iconst 1, 1) := by decide +kernel
theorem dL_law_1394 : decode cL_law 1394 = .ok (.iadd, 1) := by decide +kernel
theorem dL_law_1395 : decode cL_law 1395 = .ok (.iaload, 1) := by decide +kernel
theorem dL_law_1396 : decode cL_law 1396 = .ok (.aload_n 0, 1) := by decide +kernel
theorem dL_law_1397 : decode cL_law 1397 = .ok (.iload 4, 2) := by decide +kernel
theorem dL_law_1399 : decode cL_law 1399 = .ok (.iconst 2, 1) := by decide +kernel
theorem dL_law_1400 : decode cL_law 1400 = .ok (.iadd, 1) := by decide +kernel
theorem dL_law_1401 : decode cL_law 1401 = .ok (.iaload, 1) := by decide +kernel
theorem dL_law_1402 : decode cL_law 1402 = .ok (.aload_n 0, 1) := by decide +kernel
theorem dL_law_1403 : decode cL_law 1403 = .ok (.iload 4, 2) := by decide +kernel
theorem dL_law_1405 : decode cL_law 1405 = .ok (.iconst 3, 1) := by decide +kernel
theorem dL_law_1406 : decode cL_law 1406 = .ok (.iadd, 1) := by decide +kernel
theorem dL_law_1407 : decode cL_law 1407 = .ok (.iaload, 1) := by decide +kernel
theorem dL_law_1408 : decode cL_law 1408 = .ok (.invokevirtual 164, 3) := by decide +kernel
theorem dL_law_1411 : decode cL_law 1411 = .ok (.if_icmp .eq 131, 3) := by decide +kernel
theorem dL_law_1414 : decode cL_law 1414 = .ok (.iconst 0, 1) := by decide +kernel
theorem dL_law_1415 : decode cL_law 1415 = .ok (.ireturn, 1) := by decide +kernel
theorem dL_law_1416 : decode cL_law 1416 = .ok (.aload_n 1, 1) := by decide +kernel
theorem dL_law_1417 : decode cL_law 1417 = .ok (.aload_n 0, 1) := by decide +kernel
theorem dL_law_1418 : decode cL_law 1418 = .ok (.iload 4, 2) := by decide +kernel
theorem dL_law_1420 : decode cL_law 1420 = .ok (.iconst 1, 1) := by decide +kernel
theorem dL_law_1421 : decode cL_law 1421 = .ok (.iadd, 1) := by decide +kernel
theorem dL_law_1422 : decode cL_law 1422 = .ok (.iaload, 1) := by decide +kernel
theorem dL_law_1423 : decode cL_law 1423 = .ok (.invokevirtual 165, 3) := by decide +kernel
theorem dL_law_1426 : decode cL_law 1426 = .ok (.aload_n 2, 1) := by decide +kernel
theorem dL_law_1427 : decode cL_law 1427 = .ok (.aload_n 0, 1) := by decide +kernel
theorem dL_law_1428 : decode cL_law 1428 = .ok (.iload 4, 2) := by decide +kernel
theorem dL_law_1430 : decode cL_law 1430 = .ok (.iconst 1, 1) := by decide +kernel
theorem dL_law_1431 : decode cL_law 1431 = .ok (.iadd, 1) := by decide +kernel
theorem dL_law_1432 : decode cL_law 1432 = .ok (.iaload, 1) := by decide +kernel
theorem dL_law_1433 : decode cL_law 1433 = .ok (.invokevirtual 168, 3) := by decide +kernel
theorem dL_law_1436 : decode cL_law 1436 = .ok (.if_icmp .eq 106, 3) := by decide +kernel
theorem dL_law_1439 : decode cL_law 1439 = .ok (.iconst 0, 1) := by decide +kernel
theorem dL_law_1440 : decode cL_law 1440 = .ok (.ireturn, 1) := by decide +kernel
theorem dL_law_1441 : decode cL_law 1441 = .ok (.aload_n 1, 1) := by decide +kernel
theorem dL_law_1442 : decode cL_law 1442 = .ok (.aload_n 0, 1) := by decide +kernel
theorem dL_law_1443 : decode cL_law 1443 = .ok (.iload 4, 2) := by decide +kernel
theorem dL_law_1445 : decode cL_law 1445 = .ok (.iconst 1, 1) := by decide +kernel
theorem dL_law_1446 : decode cL_law 1446 = .ok (.iadd, 1) := by decide +kernel
theorem dL_law_1447 : decode cL_law 1447 = .ok (.iaload, 1) := by decide +kernel
theorem dL_law_1448 : decode cL_law 1448 = .ok (.invokevirtual 169, 3) := by decide +kernel
theorem dL_law_1451 : decode cL_law 1451 = .ok (.aload_n 2, 1) := by decide +kernel
theorem dL_law_1452 : decode cL_law 1452 = .ok (.aload_n 0, 1) := by decide +kernel
theorem dL_law_1453 : decode cL_law 1453 = .ok (.iload 4, 2) := by decide +kernel
theorem dL_law_1455 : decode cL_law 1455 = .ok (.iconst 1, 1) := by decide +kernel
theorem dL_law_1456 : decode cL_law 1456 = .ok (.iadd, 1) := by decide +kernel
theorem dL_law_1457 : decode cL_law 1457 = .ok (.iaload, 1) := by decide +kernel
theorem dL_law_1458 : decode cL_law 1458 = .ok (.invokevirtual 172, 3) := by decide +kernel
theorem dL_law_1461 : decode cL_law 1461 = .ok (.if_icmp .eq 81, 3) := by decide +kernel
theorem dL_law_1464 : decode cL_law 1464 = .ok (.iconst 0, 1) := by decide +kernel
theorem dL_law_1465 : decode cL_law 1465 = .ok (.ireturn, 1) := by decide +kernel
theorem dL_law_1466 : decode cL_law 1466 = .ok (.aload_n 1, 1) := by decide +kernel
theorem dL_law_1467 : decode cL_law 1467 = .ok (.aload_n 0, 1) := by decide +kernel
theorem dL_law_1468 : decode cL_law 1468 = .ok (.iload 4, 2) := by decide +kernel
theorem dL_law_1470 : decode cL_law 1470 = .ok (.iconst 1, 1) := by decide +kernel
theorem dL_law_1471 : decode cL_law 1471 = .ok (.iadd, 1) := by decide +kernel
theorem dL_law_1472 : decode cL_law 1472 = .ok (.iaload, 1) := by decide +kernel
theorem dL_law_1473 : decode cL_law 1473 = .ok (.invokevirtual 173, 3) := by decide +kernel
theorem dL_law_1476 : decode cL_law 1476 = .ok (.aload_n 2, 1) := by decide +kernel
theorem dL_law_1477 : decode cL_law 1477 = .ok (.aload_n 0, 1) := by decide +kernel
theorem dL_law_1478 : decode cL_law 1478 = .ok (.iload 4, 2) := by decide +kernel
theorem dL_law_1480 : decode cL_law 1480 = .ok (.iconst 1, 1) := by decide +kernel
theorem dL_law_1481 : decode cL_law 1481 = .ok (.iadd, 1) := by decide +kernel
theorem dL_law_1482 : decode cL_law 1482 = .ok (.iaload, 1) := by decide +kernel
theorem dL_law_1483 : decode cL_law 1483 = .ok (.invokevirtual 176, 3) := by decide +kernel
theorem dL_law_1486 : decode cL_law 1486 = .ok (.if_icmp .eq 56, 3) := by decide +kernel
theorem dL_law_1489 : decode cL_law 1489 = .ok (.iconst 0, 1) := by decide +kernel
theorem dL_law_1490 : decode cL_law 1490 = .ok (.ireturn, 1) := by decide +kernel
theorem dL_law_1491 : decode cL_law 1491 = .ok (.aload_n 1, 1) := by decide +kernel
theorem dL_law_1492 : decode cL_law 1492 = .ok (.invokevirtual 177, 3) := by decide +kernel
theorem dL_law_1495 : decode cL_law 1495 = .ok (.aload_n 2, 1) := by decide +kernel
theorem dL_law_1496 : decode cL_law 1496 = .ok (.invokevirtual 180, 3) := by decide +kernel
theorem dL_law_1499 : decode cL_law 1499 = .ok (.if_icmp .eq 43, 3) := by decide +kernel
theorem dL_law_1502 : decode cL_law 1502 = .ok (.iconst 0, 1) := by decide +kernel
theorem dL_law_1503 : decode cL_law 1503 = .ok (.ireturn, 1) := by decide +kernel
theorem dL_law_1504 : decode cL_law 1504 = .ok (.aload_n 1, 1) := by decide +kernel
theorem dL_law_1505 : decode cL_law 1505 = .ok (.invokevirtual 181, 3) := by decide +kernel
theorem dL_law_1508 : decode cL_law 1508 = .ok (.aload_n 2, 1) := by decide +kernel
theorem dL_law_1509 : decode cL_law 1509 = .ok (.invokevirtual 184, 3) := by decide +kernel
theorem dL_law_1512 : decode cL_law 1512 = .ok (.if_icmp .eq 30, 3) := by decide +kernel
theorem dL_law_1515 : decode cL_law 1515 = .ok (.iconst 0, 1) := by decide +kernel
theorem dL_law_1516 : decode cL_law 1516 = .ok (.ireturn, 1) := by decide +kernel
theorem dL_law_1517 : decode cL_law 1517 = .ok (.aload_n 1, 1) := by decide +kernel
theorem dL_law_1518 : decode cL_law 1518 = .ok (.aload_n 0, 1) := by decide +kernel
theorem dL_law_1519 : decode cL_law 1519 = .ok (.iload 4, 2) := by decide +kernel
theorem dL_law_1521 : decode cL_law 1521 = .ok (.iconst 1, 1) := by decide +kernel
theorem dL_law_1522 : decode cL_law 1522 = .ok (.iadd, 1) := by decide +kernel
theorem dL_law_1523 : decode cL_law 1523 = .ok (.iaload, 1) := by decide +kernel
theorem dL_law_1524 : decode cL_law 1524 = .ok (.invokevirtual 185, 3) := by decide +kernel
theorem dL_law_1527 : decode cL_law 1527 = .ok (.aload_n 2, 1) := by decide +kernel
theorem dL_law_1528 : decode cL_law 1528 = .ok (.aload_n 0, 1) := by decide +kernel
theorem dL_law_1529 : decode cL_law 1529 = .ok (.iload 4, 2) := by decide +kernel
theorem dL_law_1531 : decode cL_law 1531 = .ok (.iconst 1, 1) := by decide +kernel
theorem dL_law_1532 : decode cL_law 1532 = .ok (.iadd, 1) := by decide +kernel
theorem dL_law_1533 : decode cL_law 1533 = .ok (.iaload, 1) := by decide +kernel
theorem dL_law_1534 : decode cL_law 1534 = .ok (.invokevirtual 188, 3) := by decide +kernel
theorem dL_law_1537 : decode cL_law 1537 = .ok (.if_icmp .eq 5, 3) := by decide +kernel
theorem dL_law_1540 : decode cL_law 1540 = .ok (.iconst 0, 1) := by decide +kernel
theorem dL_law_1541 : decode cL_law 1541 = .ok (.ireturn, 1) := by decide +kernel
theorem dL_law_1542 : decode cL_law 1542 = .ok (.iinc 4 6, 3) := by decide +kernel
theorem dL_law_1545 : decode cL_law 1545 = .ok (.goto (-1522), 3) := by decide +kernel
theorem dL_law_1548 : decode cL_law 1548 = .ok (.iconst 1, 1) := by decide +kernel
theorem dL_law_1549 : decode cL_law 1549 = .ok (.ireturn, 1) := by decide +kernel
theorem dX12_init_0 : decode cX12_init 0 = .ok (.aload_n 0, 1) := by decide +kernel
theorem dX12_init_1 : decode cX12_init 1 = .ok (.invokespecial 3, 3) := by decide +kernel
theorem dX12_init_4 : decode cX12_init 4 = .ok (.aload_n 0, 1) := by decide +kernel
theorem dX12_init_5 : decode cX12_init 5 = .ok (.sipush 240, 3) := by decide +kernel
theorem dX12_init_8 : decode cX12_init 8 = .ok (.newarray .byte, 2) := by decide +kernel
theorem dX12_init_10 : decode cX12_init 10 = .ok (.putfield 9, 3) := by decide +kernel
theorem dX12_init_13 : decode cX12_init 13 = .ok (.aload_n 0, 1) := by decide +kernel
theorem dX12_init_14 : decode cX12_init 14 = .ok (.sipush 960, 3) := by decide +kernel
theorem dX12_init_17 : decode cX12_init 17 = .ok (.newarray .byte, 2) := by decide +kernel
theorem dX12_init_19 : decode cX12_init 19 = .ok (.putfield 13, 3) := by decide +kernel
theorem dX12_init_22 : decode cX12_init 22 = .ok (.aload_n 0, 1) := by decide +kernel
theorem dX12_init_23 : decode cX12_init 23 = .ok (.iconst 4, 1) := by decide +kernel
theorem dX12_init_24 : decode cX12_init 24 = .ok (.newarray .int, 2) := by decide +kernel
theorem dX12_init_26 : decode cX12_init 26 = .ok (.putfield 16, 3) := by decide +kernel
theorem dX12_init_29 : decode cX12_init 29 = .ok (.aload_n 0, 1) := by decide +kernel
theorem dX12_init_30 : decode cX12_init 30 = .ok (.sipush 128, 3) := by decide +kernel
theorem dX12_init_33 : decode cX12_init 33 = .ok (.newarray .int, 2) := by decide +kernel
theorem dX12_init_35 : decode cX12_init 35 = .ok (.putfield 20, 3) := by decide +kernel
theorem dX12_init_38 : decode cX12_init 38 = .ok (.aload_n 0, 1) := by decide +kernel
theorem dX12_init_39 : decode cX12_init 39 = .ok (.aload_n 0, 1) := by decide +kernel
theorem dX12_init_40 : decode cX12_init 40 = .ok (.getfield 9, 3) := by decide +kernel
theorem dX12_init_43 : decode cX12_init 43 = .ok (.putfield 23, 3) := by decide +kernel
theorem dX12_init_46 : decode cX12_init 46 = .ok (.aload_n 0, 1) := by decide +kernel
theorem dX12_init_47 : decode cX12_init 47 = .ok (.ldc 26, 2) := by decide +kernel
theorem dX12_init_49 : decode cX12_init 49 = .ok (.putfield 28, 3) := by decide +kernel
theorem dX12_init_52 : decode cX12_init 52 = .ok (.aload_n 0, 1) := by decide +kernel
theorem dX12_init_53 : decode cX12_init 53 = .ok (.ldc 32, 2) := by decide +kernel
theorem dX12_init_55 : decode cX12_init 55 = .ok (.putfield 34, 3) := by decide +kernel
theorem dX12_init_58 : decode cX12_init 58 = .ok (.aload_n 0, 1) := by decide +kernel
theorem dX12_init_59 : decode cX12_init 59 = .ok (.iconst 3, 1) := by decide +kernel
theorem dX12_init_60 : decode cX12_init 60 = .ok (.newarray .int, 2) := by decide +kernel
theorem dX12_init_62 : decode cX12_init 62 = .ok (.putfield 37, 3) := by decide +kernel
theorem dX12_init_65 : decode cX12_init 65 = .ok (.aload_n 0, 1) := by decide +kernel
theorem dX12_init_66 : decode cX12_init 66 = .ok (.iconst 3, 1) := by decide +kernel
theorem dX12_init_67 : decode cX12_init 67 = .ok (.newarray .int, 2) := by decide +kernel
theorem dX12_init_69 : decode cX12_init 69 = .ok (.putfield 40, 3) := by decide +kernel
theorem dX12_init_72 : decode cX12_init 72 = .ok (.aload_n 0, 1) := by decide +kernel
theorem dX12_init_73 : decode cX12_init 73 = .ok (.bipush 15, 2) := by decide +kernel
theorem dX12_init_75 : decode cX12_init 75 = .ok (.newarray .int, 2) := by decide +kernel
theorem dX12_init_77 : decode cX12_init 77 = .ok (.putfield 43, 3) := by decide +kernel
theorem dX12_init_80 : decode cX12_init 80 = .ok (.aload_n 0, 1) := by decide +kernel
theorem dX12_init_81 : decode cX12_init 81 = .ok (.bipush 15, 2) := by decide +kernel
theorem dX12_init_83 : decode cX12_init 83 = .ok (.newarray .int, 2) := by decide +kernel
theorem dX12_init_85 : decode cX12_init 85 = .ok (.putfield 46, 3) := by decide +kernel
theorem dX12_init_88 : decode cX12_init 88 = .ok (.aload_n 0, 1) := by decide +kernel
theorem dX12_init_89 : decode cX12_init 89 = .ok (.bipush 24, 2) := by decide +kernel
theorem dX12_init_91 : decode cX12_init 91 = .ok (.newarray .int, 2) := by decide +kernel
theorem dX12_init_93 : decode cX12_init 93 = .ok (.putfield 49, 3) := by decide +kernel
theorem dX12_init_96 : decode cX12_init 96 = .ok (.aload_n 0, 1) := by decide +kernel
theorem dX12_init_97 : decode cX12_init 97 = .ok (.bipush 24, 2) := by decide +kernel
theorem dX12_init_99 : decode cX12_init 99 = .ok (.newarray .int, 2) := by decide +kernel
theorem dX12_init_101 : decode cX12_init 101 = .ok (.putfield 52, 3) := by decide +kernel
theorem dX12_init_104 : decode cX12_init 104 = .ok (.aload_n 0, 1) := by decide +kernel
theorem dX12_init_105 : decode cX12_init 105 = .ok (.sipush 240, 3) := by decide +kernel
theorem dX12_init_108 : decode cX12_init 108 = .ok (.newarray .int, 2) := by decide +kernel
theorem dX12_init_110 : decode cX12_init 110 = .ok (.putfield 55, 3) := by decide +kernel
theorem dX12_init_113 : decode cX12_init 113 = .ok (.aload_n 0, 1) := by decide +kernel
theorem dX12_init_114 : decode cX12_init 114 = .ok (.iconst 5, 1) := by decide +kernel
theorem dX12_init_115 : decode cX12_init 115 = .ok (.newarray .int, 2) := by decide +kernel
theorem dX12_init_117 : decode cX12_init 117 = .ok (.putfield 58, 3) := by decide +kernel
theorem dX12_init_120 : decode cX12_init 120 = .ok (.aload_n 0, 1) := by decide +kernel
theorem dX12_init_121 : decode cX12_init 121 = .ok (.sipush 217, 3) := by decide +kernel
theorem dX12_init_124 : decode cX12_init 124 = .ok (.newarray .int, 2) := by decide +kernel
theorem dX12_init_126 : decode cX12_init 126 = .ok (.putfield 61, 3) := by decide +kernel
theorem dX12_init_129 : decode cX12_init 129 = .ok (.aload_n 0, 1) := by decide +kernel
theorem dX12_init_130 : decode cX12_init 130 = .ok (.sipush 217, 3) := by decide +kernel
theorem dX12_init_133 : decode cX12_init 133 = .ok (.newarray .int, 2) := by decide +kernel
theorem dX12_init_135 : decode cX12_init 135 = .ok (.putfield 64, 3) := by decide +kernel
theorem dX12_init_138 : decode cX12_init 138 = .ok (.aload_n 0, 1) := by decide +kernel
theorem dX12_init_139 : decode cX12_init 139 = .ok (.iconst (-1), 1) := by decide +kernel
theorem dX12_init_140 : decode cX12_init 140 = .ok (.putfield 67, 3) := by decide +kernel
theorem dX12_init_143 : decode cX12_init 143 = .ok (.aload_n 0, 1) := by decide +kernel
theorem dX12_init_144 : decode cX12_init 144 = .ok (.iconst 1, 1) := by decide +kernel
theorem dX12_init_145 : decode cX12_init 145 = .ok (.putfield 71, 3) := by decide +kernel
theorem dX12_init_148 : decode cX12_init 148 = .ok (.aload_n 0, 1) := by decide +kernel
theorem dX12_init_149 : decode cX12_init 149 = .ok (.bipush 6, 2) := by decide +kernel
theorem dX12_init_151 : decode cX12_init 151 = .ok (.newarray .int, 2) := by decide +kernel
theorem dX12_init_153 : decode cX12_init 153 = .ok (.putfield 74, 3) := by decide +kernel
theorem dX12_init_156 : decode cX12_init 156 = .ok (.aload_n 0, 1) := by decide +kernel
theorem dX12_init_157 : decode cX12_init 157 = .ok (.sipush 8680, 3) := by decide +kernel
theorem dX12_init_160 : decode cX12_init 160 = .ok (.newarray .int, 2) := by decide +kernel
theorem dX12_init_162 : decode cX12_init 162 = .ok (.putfield 77, 3) := by decide +kernel
theorem dX12_init_165 : decode cX12_init 165 = .ok (.aload_n 0, 1) := by decide +kernel
theorem dX12_init_166 : decode cX12_init 166 = .ok (.bipush 50, 2) := by decide +kernel
theorem dX12_init_168 : decode cX12_init 168 = .ok (.newarray .int, 2) := by decide +kernel
theorem dX12_init_170 : decode cX12_init 170 = .ok (.putfield 80, 3) := by decide +kernel
theorem dX12_init_173 : decode cX12_init 173 = .ok (.aload_n 0, 1) := by decide +kernel
theorem dX12_init_174 : decode cX12_init 174 = .ok (.bipush 32, 2) := by decide +kernel
theorem dX12_init_176 : decode cX12_init 176 = .ok (.newarray .int, 2) := by decide +kernel
theorem dX12_init_178 : decode cX12_init 178 = .ok (.putfield 83, 3) := by decide +kernel
theorem dX12_init_181 : decode cX12_init 181 = .ok (.aload_n 0, 1) := by decide +kernel
theorem dX12_init_182 : decode cX12_init 182 = .ok (.sipush 185, 3) := by decide +kernel
theorem dX12_init_185 : decode cX12_init 185 = .ok (.newarray .int, 2) := by decide +kernel
theorem dX12_init_187 : decode cX12_init 187 = .ok (.putfield 86, 3) := by decide +kernel
theorem dX12_init_190 : decode cX12_init 190 = .ok (.aload_n 0, 1) := by decide +kernel
theorem dX12_init_191 : decode cX12_init 191 = .ok (.sipush 217, 3) := by decide +kernel
theorem dX12_init_194 : decode cX12_init 194 = .ok (.newarray .int, 2) := by decide +kernel
theorem dX12_init_196 : decode cX12_init 196 = .ok (.putfield 89, 3) := by decide +kernel
theorem dX12_init_199 : decode cX12_init 199 = .ok (.return_, 1) := by decide +kernel
theorem dX12_thrown_0 : decode cX12_thrown 0 = .ok (.aload_n 0, 1) := by decide +kernel
theorem dX12_thrown_1 : decode cX12_thrown 1 = .ok (.getfield 92, 3) := by decide +kernel
theorem dX12_thrown_4 : decode cX12_thrown 4 = .ok (.ireturn, 1) := by decide +kernel
theorem dX12_isIn_0 : decode cX12_isIn 0 = .ok (.lload_n 0, 1) := by decide +kernel
theorem dX12_isIn_1 : decode cX12_isIn 1 = .ok (.lload_n 2, 1) := by decide +kernel
theorem dX12_isIn_2 : decode cX12_isIn 2 = .ok (.lcmp, 1) := by decide +kernel
theorem dX12_isIn_3 : decode cX12_isIn 3 = .ok (.ifCond .lt 14, 3) := by decide +kernel
theorem dX12_isIn_6 : decode cX12_isIn 6 = .ok (.lload_n 0, 1) := by decide +kernel
theorem dX12_isIn_7 : decode cX12_isIn 7 = .ok (.lload 4, 2) := by decide +kernel
theorem dX12_isIn_9 : decode cX12_isIn 9 = .ok (.lcmp, 1) := by decide +kernel
theorem dX12_isIn_10 : decode cX12_isIn 10 = .ok (.ifCond .gt 7, 3) := by decide +kernel
theorem dX12_isIn_13 : decode cX12_isIn 13 = .ok (.iconst 1, 1) := by decide +kernel
theorem dX12_isIn_14 : decode cX12_isIn 14 = .ok (.goto 4, 3) := by decide +kernel
theorem dX12_isIn_17 : decode cX12_isIn 17 = .ok (.iconst 0, 1) := by decide +kernel
theorem dX12_isIn_18 : decode cX12_isIn 18 = .ok (.ireturn, 1) := by decide +kernel
theorem dX12_has_0 : decode cX12_has 0 = .ok (.iload_n 0, 1) := by decide +kernel
theorem dX12_has_1 : decode cX12_has 1 = .ok (.iload_n 1, 1) := by decide +kernel
theorem dX12_has_2 : decode cX12_has 2 = .ok (.ishr, 1) := by decide +kernel
theorem dX12_has_3 : decode cX12_has 3 = .ok (.iconst 1, 1) := by decide +kernel
theorem dX12_has_4 : decode cX12_has 4 = .ok (.iand, 1) := by decide +kernel
theorem dX12_has_5 : decode cX12_has 5 = .ok (.iconst 1, 1) := by decide +kernel
theorem dX12_has_6 : decode cX12_has 6 = .ok (.if_icmp .ne 7, 3) := by decide +kernel
theorem dX12_has_9 : decode cX12_has 9 = .ok (.iconst 1, 1) := by decide +kernel
theorem dX12_has_10 : decode cX12_has 10 = .ok (.goto 4, 3) := by decide +kernel
theorem dX12_has_13 : decode cX12_has 13 = .ok (.iconst 0, 1) := by decide +kernel
theorem dX12_has_14 : decode cX12_has 14 = .ok (.ireturn, 1) := by decide +kernel
theorem dX12_isAmong_0 : decode cX12_isAmong 0 = .ok (.iconst 0, 1) := by decide +kernel
theorem dX12_isAmong_1 : decode cX12_isAmong 1 = .ok (.istore_n 2, 1) := by decide +kernel
theorem dX12_isAmong_2 : decode cX12_isAmong 2 = .ok (.iload_n 2, 1) := by decide +kernel
theorem dX12_isAmong_3 : decode cX12_isAmong 3 = .ok (.aload_n 0, 1) := by decide +kernel
theorem dX12_isAmong_4 : decode cX12_isAmong 4 = .ok (.invokevirtual 95, 3) := by decide +kernel
theorem dX12_isAmong_7 : decode cX12_isAmong 7 = .ok (.if_icmp .ge 20, 3) := by decide +kernel
theorem dX12_isAmong_10 : decode cX12_isAmong 10 = .ok (.aload_n 0, 1) := by decide +kernel
theorem dX12_isAmong_11 : decode cX12_isAmong 11 = .ok (.iload_n 2, 1) := by decide +kernel
theorem dX12_isAmong_12 : decode cX12_isAmong 12 = .ok (.invokevirtual 101, 3) := by decide +kernel
theorem dX12_isAmong_15 : decode cX12_isAmong 15 = .ok (.iload_n 1, 1) := by decide +kernel
theorem dX12_isAmong_16 : decode cX12_isAmong 16 = .ok (.if_icmp .ne 5, 3) := by decide +kernel
theorem dX12_isAmong_19 : decode cX12_isAmong 19 = .ok (.iconst 1, 1) := by decide +kernel
theorem dX12_isAmong_20 : decode cX12_isAmong 20 = .ok (.ireturn, 1) := by decide +kernel
theorem dX12_isAmong_21 : decode cX12_isAmong 21 = .ok (.iinc 2 1, 3) := by decide +kernel
theorem dX12_isAmong_24 : decode cX12_isAmong 24 = .ok (.goto (-22), 3) := by decide +kernel
theorem dX12_isAmong_27 : decode cX12_isAmong 27 = .ok (.iconst 0, 1) := by decide +kernel
theorem dX12_isAmong_28 : decode cX12_isAmong 28 = .ok (.ireturn, 1) := by decide +kernel
theorem dX12_bytesIn_0 : decode cX12_bytesIn 0 = .ok (.iconst 0, 1) := by decide +kernel
theorem dX12_bytesIn_1 : decode cX12_bytesIn 1 = .ok (.istore_n 1, 1) := by decide +kernel
theorem dX12_bytesIn_2 : decode cX12_bytesIn 2 = .ok (.bipush 24, 2) := by decide +kernel
theorem dX12_bytesIn_4 : decode cX12_bytesIn 4 = .ok (.istore_n 2, 1) := by decide +kernel
theorem dX12_bytesIn_5 : decode cX12_bytesIn 5 = .ok (.iload_n 2, 1) := by decide +kernel
theorem dX12_bytesIn_6 : decode cX12_bytesIn 6 = .ok (.ifCond .lt 27, 3) := by decide +kernel
theorem dX12_bytesIn_9 : decode cX12_bytesIn 9 = .ok (.iload_n 1, 1) := by decide +kernel
theorem dX12_bytesIn_10 : decode cX12_bytesIn 10 = .ok (.iload_n 0, 1) := by decide +kernel
theorem dX12_bytesIn_11 : decode cX12_bytesIn 11 = .ok (.iload_n 2, 1) := by decide +kernel
theorem dX12_bytesIn_12 : decode cX12_bytesIn 12 = .ok (.ishr, 1) := by decide +kernel
theorem dX12_bytesIn_13 : decode cX12_bytesIn 13 = .ok (.sipush 255, 3) := by decide +kernel
theorem dX12_bytesIn_16 : decode cX12_bytesIn 16 = .ok (.iand, 1) := by decide +kernel
theorem dX12_bytesIn_17 : decode cX12_bytesIn 17 = .ok (.ifCond .eq 7, 3) := by decide +kernel
theorem dX12_bytesIn_20 : decode cX12_bytesIn 20 = .ok (.iconst 1, 1) := by decide +kernel
theorem dX12_bytesIn_21 : decode cX12_bytesIn 21 = .ok (.goto 4, 3) := by decide +kernel
theorem dX12_bytesIn_24 : decode cX12_bytesIn 24 = .ok (.iconst 0, 1) := by decide +kernel
theorem dX12_bytesIn_25 : decode cX12_bytesIn 25 = .ok (.iadd, 1) := by decide +kernel
theorem dX12_bytesIn_26 : decode cX12_bytesIn 26 = .ok (.istore_n 1, 1) := by decide +kernel
theorem dX12_bytesIn_27 : decode cX12_bytesIn 27 = .ok (.iinc 2 (-8), 3) := by decide +kernel
theorem dX12_bytesIn_30 : decode cX12_bytesIn 30 = .ok (.goto (-25), 3) := by decide +kernel
theorem dX12_bytesIn_33 : decode cX12_bytesIn 33 = .ok (.iload_n 1, 1) := by decide +kernel
theorem dX12_bytesIn_34 : decode cX12_bytesIn 34 = .ok (.ireturn, 1) := by decide +kernel
theorem dX12_put_0 : decode cX12_put 0 = .ok (.bipush 24, 2) := by decide +kernel
theorem dX12_put_2 : decode cX12_put 2 = .ok (.istore_n 2, 1) := by decide +kernel
theorem dX12_put_3 : decode cX12_put 3 = .ok (.iload_n 2, 1) := by decide +kernel
theorem dX12_put_4 : decode cX12_put 4 = .ok (.ifCond .lt 45, 3) := by decide +kernel
theorem dX12_put_7 : decode cX12_put 7 = .ok (.iload_n 1, 1) := by decide +kernel
theorem dX12_put_8 : decode cX12_put 8 = .ok (.iload_n 2, 1) := by decide +kernel
theorem dX12_put_9 : decode cX12_put 9 = .ok (.ishr, 1) := by decide +kernel
theorem dX12_put_10 : decode cX12_put 10 = .ok (.sipush 255, 3) := by decide +kernel
theorem dX12_put_13 : decode cX12_put 13 = .ok (.iand, 1) := by decide +kernel
theorem dX12_put_14 : decode cX12_put 14 = .ok (.ifCond .ne 6, 3) := by decide +kernel
theorem dX12_put_17 : decode cX12_put 17 = .ok (.goto 26, 3) := by decide +kernel
theorem dX12_put_20 : decode cX12_put 20 = .ok (.aload_n 0, 1) := by decide +kernel
theorem dX12_put_21 : decode cX12_put 21 = .ok (.getfield 9, 3) := by decide +kernel
theorem dX12_put_24 : decode cX12_put 24 = .ok (.aload_n 0, 1) := by decide +kernel
theorem dX12_put_25 : decode cX12_put 25 = .ok (.getfield 105, 3) := by decide +kernel
theorem dX12_put_28 : decode cX12_put 28 = .ok (.iload_n 1, 1) := by decide +kernel
theorem dX12_put_29 : decode cX12_put 29 = .ok (.iload_n 2, 1) := by decide +kernel
theorem dX12_put_30 : decode cX12_put 30 = .ok (.ishr, 1) := by decide +kernel
theorem dX12_put_31 : decode cX12_put 31 = .ok (.i2b, 1) := by decide +kernel
theorem dX12_put_32 : decode cX12_put 32 = .ok (.bastore, 1) := by decide +kernel
theorem dX12_put_33 : decode cX12_put 33 = .ok (.aload_n 0, 1) := by decide +kernel
theorem dX12_put_34 : decode cX12_put 34 = .ok (.dup, 1) := by decide +kernel
theorem dX12_put_35 : decode cX12_put 35 = .ok (.getfield 105, 3) := by decide +kernel
theorem dX12_put_38 : decode cX12_put 38 = .ok (.iconst 1, 1) := by decide +kernel
theorem dX12_put_39 : decode cX12_put 39 = .ok (.iadd, 1) := by decide +kernel
theorem dX12_put_40 : decode cX12_put 40 = .ok (.putfield 105, 3) := by decide +kernel
theorem dX12_put_43 : decode cX12_put 43 = .ok (.iinc 2 (-8), 3) := by decide +kernel
theorem dX12_put_46 : decode cX12_put 46 = .ok (.goto (-43), 3) := by decide +kernel
theorem dX12_put_49 : decode cX12_put 49 = .ok (.return_, 1) := by decide +kernel
theorem dX12_feed_0 : decode cX12_feed 0 = .ok (.aload_n 0, 1) := by decide +kernel
theorem dX12_feed_1 : decode cX12_feed 1 = .ok (.iconst 0, 1) := by decide +kernel
theorem dX12_feed_2 : decode cX12_feed 2 = .ok (.putfield 92, 3) := by decide +kernel
theorem dX12_feed_5 : decode cX12_feed 5 = .ok (.aload_n 0, 1) := by decide +kernel
theorem dX12_feed_6 : decode cX12_feed 6 = .ok (.getfield 105, 3) := by decide +kernel
theorem dX12_feed_9 : decode cX12_feed 9 = .ok (.iload_n 1, 1) := by decide +kernel
theorem dX12_feed_10 : decode cX12_feed 10 = .ok (.invokestatic 107, 3) := by decide +kernel
theorem dX12_feed_13 : decode cX12_feed 13 = .ok (.iadd, 1) := by decide +kernel
theorem dX12_feed_14 : decode cX12_feed 14 = .ok (.iload_n 2, 1) := by decide +kernel
theorem dX12_feed_15 : decode cX12_feed 15 = .ok (.invokestatic 107, 3) := by decide +kernel
theorem dX12_feed_18 : decode cX12_feed 18 = .ok (.iadd, 1) := by decide +kernel
theorem dX12_feed_19 : decode cX12_feed 19 = .ok (.iload_n 3, 1) := by decide +kernel
theorem dX12_feed_20 : decode cX12_feed 20 = .ok (.invokestatic 107, 3) := by decide +kernel
theorem dX12_feed_23 : decode cX12_feed 23 = .ok (.iadd, 1) := by decide +kernel
theorem dX12_feed_24 : decode cX12_feed 24 = .ok (.iload 4, 2) := by decide +kernel
theorem dX12_feed_26 : decode cX12_feed 26 = .ok (.invokestatic 107, 3) := by decide +kernel
theorem dX12_feed_29 : decode cX12_feed 29 = .ok (.iadd, 1) := by decide +kernel
theorem dX12_feed_30 : decode cX12_feed 30 = .ok (.iload 5, 2) := by decide +kernel
theorem dX12_feed_32 : decode cX12_feed 32 = .ok (.invokestatic 107, 3) := by decide +kernel
theorem dX12_feed_35 : decode cX12_feed 35 = .ok (.iadd, 1) := by decide +kernel
theorem dX12_feed_36 : decode cX12_feed 36 = .ok (.sipush 240, 3) := by decide +kernel
theorem dX12_feed_39 : decode cX12_feed 39 = .ok (.if_icmp .le 5, 3) := by decide +kernel
theorem dX12_feed_42 : decode cX12_feed 42 = .ok (.iconst (-1), 1) := by decide +kernel
theorem dX12_feed_43 : decode cX12_feed 43 = .ok (.ireturn, 1) := by decide +kernel
theorem dX12_feed_44 : decode cX12_feed 44 = .ok (.aload_n 0, 1) := by decide +kernel
theorem dX12_feed_45 : decode cX12_feed 45 = .ok (.iload_n 1, 1) := by decide +kernel
theorem dX12_feed_46 : decode cX12_feed 46 = .ok (.invokevirtual 111, 3) := by decide +kernel
theorem dX12_feed_49 : decode cX12_feed 49 = .ok (.aload_n 0, 1) := by decide +kernel
theorem dX12_feed_50 : decode cX12_feed 50 = .ok (.iload_n 2, 1) := by decide +kernel
theorem dX12_feed_51 : decode cX12_feed 51 = .ok (.invokevirtual 111, 3) := by decide +kernel
theorem dX12_feed_54 : decode cX12_feed 54 = .ok (.aload_n 0, 1) := by decide +kernel
theorem dX12_feed_55 : decode cX12_feed 55 = .ok (.iload_n 3, 1) := by decide +kernel
theorem dX12_feed_56 : decode cX12_feed 56 = .ok (.invokevirtual 111, 3) := by decide +kernel
theorem dX12_feed_59 : decode cX12_feed 59 = .ok (.aload_n 0, 1) := by decide +kernel
theorem dX12_feed_60 : decode cX12_feed 60 = .ok (.iload 4, 2) := by decide +kernel
theorem dX12_feed_62 : decode cX12_feed 62 = .ok (.invokevirtual 111, 3) := by decide +kernel
theorem dX12_feed_65 : decode cX12_feed 65 = .ok (.aload_n 0, 1) := by decide +kernel
theorem dX12_feed_66 : decode cX12_feed 66 = .ok (.iload 5, 2) := by decide +kernel
theorem dX12_feed_68 : decode cX12_feed 68 = .ok (.invokevirtual 111, 3) := by decide +kernel
theorem dX12_feed_71 : decode cX12_feed 71 = .ok (.aload_n 0, 1) := by decide +kernel
theorem dX12_feed_72 : decode cX12_feed 72 = .ok (.getfield 105, 3) := by decide +kernel
theorem dX12_feed_75 : decode cX12_feed 75 = .ok (.ireturn, 1) := by decide +kernel
theorem dX12_end_0 : decode cX12_end 0 = .ok (.aload_n 0, 1) := by decide +kernel
theorem dX12_end_1 : decode cX12_end 1 = .ok (.iconst 0, 1) := by decide +kernel
theorem dX12_end_2 : decode cX12_end 2 = .ok (.putfield 92, 3) := by decide +kernel
theorem dX12_end_5 : decode cX12_end 5 = .ok (.iload_n 1, 1) := by decide +kernel
theorem dX12_end_6 : decode cX12_end 6 = .ok (.ifCond .lt 11, 3) := by decide +kernel
theorem dX12_end_9 : decode cX12_end 9 = .ok (.iload_n 1, 1) := by decide +kernel
theorem dX12_end_10 : decode cX12_end 10 = .ok (.aload_n 0, 1) := by decide +kernel
theorem dX12_end_11 : decode cX12_end 11 = .ok (.getfield 105, 3) := by decide +kernel
theorem dX12_end_14 : decode cX12_end 14 = .ok (.if_icmp .le 5, 3) := by decide +kernel
theorem dX12_end_17 : decode cX12_end 17 = .ok (.iconst 0, 1) := by decide +kernel
theorem dX12_end_18 : decode cX12_end 18 = .ok (.ireturn, 1) := by decide +kernel
theorem dX12_end_19 : decode cX12_end 19 = .ok (.aload_n 0, 1) := by decide +kernel
theorem dX12_end_20 : decode cX12_end 20 = .ok (.iload_n 1, 1) := by decide +kernel
theorem dX12_end_21 : decode cX12_end 21 = .ok (.putfield 105, 3) := by decide +kernel
theorem dX12_end_24 : decode cX12_end 24 = .ok (.iconst 1, 1) := by decide +kernel
theorem dX12_end_25 : decode cX12_end 25 = .ok (.ireturn, 1) := by decide +kernel
theorem dX12_look_0 : decode cX12_look 0 = .ok (.aload_n 0, 1) := by decide +kernel
theorem dX12_look_1 : decode cX12_look 1 = .ok (.getfield 115, 3) := by decide +kernel
theorem dX12_look_4 : decode cX12_look 4 = .ok (.aload_n 0, 1) := by decide +kernel
theorem dX12_look_5 : decode cX12_look 5 = .ok (.getfield 118, 3) := by decide +kernel
theorem dX12_look_8 : decode cX12_look 8 = .ok (.if_icmp .ge 35, 3) := by decide +kernel
theorem dX12_look_11 : decode cX12_look 11 = .ok (.aload_n 0, 1) := by decide +kernel
theorem dX12_look_12 : decode cX12_look 12 = .ok (.getfield 23, 3) := by decide +kernel
theorem dX12_look_15 : decode cX12_look 15 = .ok (.aload_n 0, 1) := by decide +kernel
theorem dX12_look_16 : decode cX12_look 16 = .ok (.getfield 121, 3) := by decide +kernel
theorem dX12_look_19 : decode cX12_look 19 = .ok (.aload_n 0, 1) := by decide +kernel
theorem dX12_look_20 : decode cX12_look 20 = .ok (.getfield 115, 3) := by decide +kernel
theorem dX12_look_23 : decode cX12_look 23 = .ok (.iadd, 1) := by decide +kernel
theorem dX12_look_24 : decode cX12_look 24 = .ok (.baload, 1) := by decide +kernel
theorem dX12_look_25 : decode cX12_look 25 = .ok (.bipush 32, 2) := by decide +kernel
theorem dX12_look_27 : decode cX12_look 27 = .ok (.if_icmp .ne 16, 3) := by decide +kernel
theorem dX12_look_30 : decode cX12_look 30 = .ok (.aload_n 0, 1) := by decide +kernel
theorem dX12_look_31 : decode cX12_look 31 = .ok (.dup, 1) := by decide +kernel
theorem dX12_look_32 : decode cX12_look 32 = .ok (.getfield 115, 3) := by decide +kernel
theorem dX12_look_35 : decode cX12_look 35 = .ok (.iconst 1, 1) := by decide +kernel
theorem dX12_look_36 : decode cX12_look 36 = .ok (.iadd, 1) := by decide +kernel
theorem dX12_look_37 : decode cX12_look 37 = .ok (.putfield 115, 3) := by decide +kernel
theorem dX12_look_40 : decode cX12_look 40 = .ok (.goto (-40), 3) := by decide +kernel
theorem dX12_look_43 : decode cX12_look 43 = .ok (.aload_n 0, 1) := by decide +kernel
theorem dX12_look_44 : decode cX12_look 44 = .ok (.getfield 115, 3) := by decide +kernel
theorem dX12_look_47 : decode cX12_look 47 = .ok (.aload_n 0, 1) := by decide +kernel
theorem dX12_look_48 : decode cX12_look 48 = .ok (.getfield 118, 3) := by decide +kernel
theorem dX12_look_51 : decode cX12_look 51 = .ok (.if_icmp .ge 24, 3) := by decide +kernel
theorem dX12_look_54 : decode cX12_look 54 = .ok (.aload_n 0, 1) := by decide +kernel
theorem dX12_look_55 : decode cX12_look 55 = .ok (.getfield 23, 3) := by decide +kernel
theorem dX12_look_58 : decode cX12_look 58 = .ok (.aload_n 0, 1) := by decide +kernel
theorem dX12_look_59 : decode cX12_look 59 = .ok (.getfield 121, 3) := by decide +kernel
theorem dX12_look_62 : decode cX12_look 62 = .ok (.aload_n 0, 1) := by decide +kernel
theorem dX12_look_63 : decode cX12_look 63 = .ok (.getfield 115, 3) := by decide +kernel
theorem dX12_look_66 : decode cX12_look 66 = .ok (.iadd, 1) := by decide +kernel
theorem dX12_look_67 : decode cX12_look 67 = .ok (.baload, 1) := by decide +kernel
theorem dX12_look_68 : decode cX12_look 68 = .ok (.sipush 255, 3) := by decide +kernel
theorem dX12_look_71 : decode cX12_look 71 = .ok (.iand, 1) := by decide +kernel
theorem dX12_look_72 : decode cX12_look 72 = .ok (.goto 4, 3) := by decide +kernel
theorem dX12_look_75 : decode cX12_look 75 = .ok (.iconst (-1), 1) := by decide +kernel
theorem dX12_look_76 : decode cX12_look 76 = .ok (.ireturn, 1) := by decide +kernel
theorem dX12_fails_0 : decode cX12_fails 0 = .ok (.aload_n 0, 1) := by decide +kernel
theorem dX12_fails_1 : decode cX12_fails 1 = .ok (.getfield 124, 3) := by decide +kernel
theorem dX12_fails_4 : decode cX12_fails 4 = .ok (.iconst (-1), 1) := by decide +kernel
theorem dX12_fails_5 : decode cX12_fails 5 = .ok (.if_icmp .ne 11, 3) := by decide +kernel
theorem dX12_fails_8 : decode cX12_fails 8 = .ok (.aload_n 0, 1) := by decide +kernel
theorem dX12_fails_9 : decode cX12_fails 9 = .ok (.aload_n 0, 1) := by decide +kernel
theorem dX12_fails_10 : decode cX12_fails 10 = .ok (.getfield 115, 3) := by decide +kernel
theorem dX12_fails_13 : decode cX12_fails 13 = .ok (.putfield 124, 3) := by decide +kernel
theorem dX12_fails_16 : decode cX12_fails 16 = .ok (.iconst 0, 1) := by decide +kernel
theorem dX12_fails_17 : decode cX12_fails 17 = .ok (.ireturn, 1) := by decide +kernel
theorem dX12_goesIn_0 : decode cX12_goesIn 0 = .ok (.aload_n 0, 1) := by decide +kernel
theorem dX12_goesIn_1 : decode cX12_goesIn 1 = .ok (.getfield 127, 3) := by decide +kernel
theorem dX12_goesIn_4 : decode cX12_goesIn 4 = .ok (.bipush 6, 2) := by decide +kernel
theorem dX12_goesIn_6 : decode cX12_goesIn 6 = .ok (.if_icmp .ne 8, 3) := by decide +kernel
theorem dX12_goesIn_9 : decode cX12_goesIn 9 = .ok (.aload_n 0, 1) := by decide +kernel
theorem dX12_goesIn_10 : decode cX12_goesIn 10 = .ok (.invokevirtual 130, 3) := by decide +kernel
theorem dX12_goesIn_13 : decode cX12_goesIn 13 = .ok (.ireturn, 1) := by decide +kernel
theorem dX12_goesIn_14 : decode cX12_goesIn 14 = .ok (.aload_n 0, 1) := by decide +kernel
theorem dX12_goesIn_15 : decode cX12_goesIn 15 = .ok (.dup, 1) := by decide +kernel
theorem dX12_goesIn_16 : decode cX12_goesIn 16 = .ok (.getfield 127, 3) := by decide +kernel
theorem dX12_goesIn_19 : decode cX12_goesIn 19 = .ok (.iconst 1, 1) := by decide +kernel
theorem dX12_goesIn_20 : decode cX12_goesIn 20 = .ok (.iadd, 1) := by decide +kernel
theorem dX12_goesIn_21 : decode cX12_goesIn 21 = .ok (.putfield 127, 3) := by decide +kernel
theorem dX12_goesIn_24 : decode cX12_goesIn 24 = .ok (.aload_n 0, 1) := by decide +kernel
theorem dX12_goesIn_25 : decode cX12_goesIn 25 = .ok (.dup, 1) := by decide +kernel
theorem dX12_goesIn_26 : decode cX12_goesIn 26 = .ok (.getfield 115, 3) := by decide +kernel
theorem dX12_goesIn_29 : decode cX12_goesIn 29 = .ok (.iconst 1, 1) := by decide +kernel
theorem dX12_goesIn_30 : decode cX12_goesIn 30 = .ok (.iadd, 1) := by decide +kernel
theorem dX12_goesIn_31 : decode cX12_goesIn 31 = .ok (.putfield 115, 3) := by decide +kernel
theorem dX12_goesIn_34 : decode cX12_goesIn 34 = .ok (.iconst 1, 1) := by decide +kernel
theorem dX12_goesIn_35 : decode cX12_goesIn 35 = .ok (.ireturn, 1) := by decide +kernel
theorem dX12_takes_0 : decode cX12_takes 0 = .ok (.aload_n 0, 1) := by decide +kernel
theorem dX12_takes_1 : decode cX12_takes 1 = .ok (.getfield 124, 3) := by decide +kernel
theorem dX12_takes_4 : decode cX12_takes 4 = .ok (.iconst (-1), 1) := by decide +kernel
theorem dX12_takes_5 : decode cX12_takes 5 = .ok (.if_icmp .ne 11, 3) := by decide +kernel
theorem dX12_takes_8 : decode cX12_takes 8 = .ok (.aload_n 0, 1) := by decide +kernel
theorem dX12_takes_9 : decode cX12_takes 9 = .ok (.invokevirtual 134, 3) := by decide +kernel
theorem dX12_takes_12 : decode cX12_takes 12 = .ok (.iload_n 1, 1) := by decide +kernel
theorem dX12_takes_13 : decode cX12_takes 13 = .ok (.if_icmp .eq 8, 3) := by decide +kernel
theorem dX12_takes_16 : decode cX12_takes 16 = .ok (.aload_n 0, 1) := by decide +kernel
theorem dX12_takes_17 : decode cX12_takes 17 = .ok (.invokevirtual 130, 3) := by decide +kernel
theorem dX12_takes_20 : decode cX12_takes 20 = .ok (.ireturn, 1) := by decide +kernel
theorem dX12_takes_21 : decode cX12_takes 21 = .ok (.aload_n 0, 1) := by decide +kernel
theorem dX12_takes_22 : decode cX12_takes 22 = .ok (.dup, 1) := by decide +kernel
theorem dX12_takes_23 : decode cX12_takes 23 = .ok (.getfield 115, 3) := by decide +kernel
theorem dX12_takes_26 : decode cX12_takes 26 = .ok (.iconst 1, 1) := by decide +kernel
theorem dX12_takes_27 : decode cX12_takes 27 = .ok (.iadd, 1) := by decide +kernel
theorem dX12_takes_28 : decode cX12_takes 28 = .ok (.putfield 115, 3) := by decide +kernel
theorem dX12_takes_31 : decode cX12_takes 31 = .ok (.iconst 1, 1) := by decide +kernel
theorem dX12_takes_32 : decode cX12_takes 32 = .ok (.ireturn, 1) := by decide +kernel
theorem dX12_isDigit_0 : decode cX12_isDigit 0 = .ok (.aload_n 0, 1) := by decide +kernel
theorem dX12_isDigit_1 : decode cX12_isDigit 1 = .ok (.getfield 115, 3) := by decide +kernel
theorem dX12_isDigit_4 : decode cX12_isDigit 4 = .ok (.aload_n 0, 1) := by decide +kernel
theorem dX12_isDigit_5 : decode cX12_isDigit 5 = .ok (.getfield 118, 3) := by decide +kernel
theorem dX12_isDigit_8 : decode cX12_isDigit 8 = .ok (.if_icmp .ge 45, 3) := by decide +kernel
theorem dX12_isDigit_11 : decode cX12_isDigit 11 = .ok (.aload_n 0, 1) := by decide +kernel
theorem dX12_isDigit_12 : decode cX12_isDigit 12 = .ok (.getfield 23, 3) := by decide +kernel
theorem dX12_isDigit_15 : decode cX12_isDigit 15 = .ok (.aload_n 0, 1) := by decide +kernel
theorem dX12_isDigit_16 : decode cX12_isDigit 16 = .ok (.getfield 121, 3) := by decide +kernel
theorem dX12_isDigit_19 : decode cX12_isDigit 19 = .ok (.aload_n 0, 1) := by decide +kernel
theorem dX12_isDigit_20 : decode cX12_isDigit 20 = .ok (.getfield 115, 3) := by decide +kernel
theorem dX12_isDigit_23 : decode cX12_isDigit 23 = .ok (.iadd, 1) := by decide +kernel
theorem dX12_isDigit_24 : decode cX12_isDigit 24 = .ok (.baload, 1) := by decide +kernel
theorem dX12_isDigit_25 : decode cX12_isDigit 25 = .ok (.bipush 48, 2) := by decide +kernel
theorem dX12_isDigit_27 : decode cX12_isDigit 27 = .ok (.if_icmp .lt 26, 3) := by decide +kernel
theorem dX12_isDigit_30 : decode cX12_isDigit 30 = .ok (.aload_n 0, 1) := by decide +kernel
theorem dX12_isDigit_31 : decode cX12_isDigit 31 = .ok (.getfield 23, 3) := by decide +kernel
theorem dX12_isDigit_34 : decode cX12_isDigit 34 = .ok (.aload_n 0, 1) := by decide +kernel
theorem dX12_isDigit_35 : decode cX12_isDigit 35 = .ok (.getfield 121, 3) := by decide +kernel
theorem dX12_isDigit_38 : decode cX12_isDigit 38 = .ok (.aload_n 0, 1) := by decide +kernel
theorem dX12_isDigit_39 : decode cX12_isDigit 39 = .ok (.getfield 115, 3) := by decide +kernel
theorem dX12_isDigit_42 : decode cX12_isDigit 42 = .ok (.iadd, 1) := by decide +kernel
theorem dX12_isDigit_43 : decode cX12_isDigit 43 = .ok (.baload, 1) := by decide +kernel
theorem dX12_isDigit_44 : decode cX12_isDigit 44 = .ok (.bipush 57, 2) := by decide +kernel
theorem dX12_isDigit_46 : decode cX12_isDigit 46 = .ok (.if_icmp .gt 7, 3) := by decide +kernel
theorem dX12_isDigit_49 : decode cX12_isDigit 49 = .ok (.iconst 1, 1) := by decide +kernel
theorem dX12_isDigit_50 : decode cX12_isDigit 50 = .ok (.goto 4, 3) := by decide +kernel
theorem dX12_isDigit_53 : decode cX12_isDigit 53 = .ok (.iconst 0, 1) := by decide +kernel
theorem dX12_isDigit_54 : decode cX12_isDigit 54 = .ok (.ireturn, 1) := by decide +kernel
theorem dX12_within_0 : decode cX12_within 0 = .ok (.ldc2_w 137, 3) := by decide +kernel
theorem dX12_within_3 : decode cX12_within 3 = .ok (.ldc2_w 139, 3) := by decide +kernel
theorem dX12_within_6 : decode cX12_within 6 = .ok (.lload_n 0, 1) := by decide +kernel
theorem dX12_within_7 : decode cX12_within 7 = .ok (.invokestatic 141, 3) := by decide +kernel
theorem dX12_within_10 : decode cX12_within 10 = .ok (.invokestatic 147, 3) := by decide +kernel
theorem dX12_within_13 : decode cX12_within 13 = .ok (.l2i, 1) := by decide +kernel
theorem dX12_within_14 : decode cX12_within 14 = .ok (.ireturn, 1) := by decide +kernel
theorem dX12_atom_0 : decode cX12_atom 0 = .ok (.aload_n 0, 1) := by decide +kernel
theorem dX12_atom_1 : decode cX12_atom 1 = .ok (.invokevirtual 134, 3) := by decide +kernel
theorem dX12_atom_4 : decode cX12_atom 4 = .ok (.istore_n 1, 1) := by decide +kernel
theorem dX12_atom_5 : decode cX12_atom 5 = .ok (.ldc 32, 2) := by decide +kernel
theorem dX12_atom_7 : decode cX12_atom 7 = .ok (.iload_n 1, 1) := by decide +kernel
theorem dX12_atom_8 : decode cX12_atom 8 = .ok (.invokestatic 150, 3) := by decide +kernel
theorem dX12_atom_11 : decode cX12_atom 11 = .ok (.ifCond .eq 20, 3) := by decide +kernel
theorem dX12_atom_14 : decode cX12_atom 14 = .ok (.aload_n 0, 1) := by decide +kernel
theorem dX12_atom_15 : decode cX12_atom 15 = .ok (.dup, 1) := by decide +kernel
theorem dX12_atom_16 : decode cX12_atom 16 = .ok (.getfield 115, 3) := by decide +kernel
theorem dX12_atom_19 : decode cX12_atom 19 = .ok (.iconst 1, 1) := by decide +kernel
theorem dX12_atom_20 : decode cX12_atom 20 = .ok (.iadd, 1) := by decide +kernel
theorem dX12_atom_21 : decode cX12_atom 21 = .ok (.putfield 115, 3) := by decide +kernel
theorem dX12_atom_24 : decode cX12_atom 24 = .ok (.aload_n 0, 1) := by decide +kernel
theorem dX12_atom_25 : decode cX12_atom 25 = .ok (.getfield 20, 3) := by decide +kernel
theorem dX12_atom_28 : decode cX12_atom 28 = .ok (.iload_n 1, 1) := by decide +kernel
theorem dX12_atom_29 : decode cX12_atom 29 = .ok (.iaload, 1) := by decide +kernel
theorem dX12_atom_30 : decode cX12_atom 30 = .ok (.ireturn, 1) := by decide +kernel
theorem dX12_atom_31 : decode cX12_atom 31 = .ok (.iload_n 1, 1) := by decide +kernel
theorem dX12_atom_32 : decode cX12_atom 32 = .ok (.bipush 91, 2) := by decide +kernel
theorem dX12_atom_34 : decode cX12_atom 34 = .ok (.if_icmp .ne 40, 3) := by decide +kernel
theorem dX12_atom_37 : decode cX12_atom 37 = .ok (.aload_n 0, 1) := by decide +kernel
theorem dX12_atom_38 : decode cX12_atom 38 = .ok (.invokevirtual 154, 3) := by decide +kernel
theorem dX12_atom_41 : decode cX12_atom 41 = .ok (.ifCond .ne 5, 3) := by decide +kernel
theorem dX12_atom_44 : decode cX12_atom 44 = .ok (.iconst 0, 1) := by decide +kernel
theorem dX12_atom_45 : decode cX12_atom 45 = .ok (.ireturn, 1) := by decide +kernel
theorem dX12_atom_46 : decode cX12_atom 46 = .ok (.aload_n 0, 1) := by decide +kernel
theorem dX12_atom_47 : decode cX12_atom 47 = .ok (.invokevirtual 157, 3) := by decide +kernel
theorem dX12_atom_50 : decode cX12_atom 50 = .ok (.istore_n 2, 1) := by decide +kernel
theorem dX12_atom_51 : decode cX12_atom 51 = .ok (.aload_n 0, 1) := by decide +kernel
theorem dX12_atom_52 : decode cX12_atom 52 = .ok (.bipush 93, 2) := by decide +kernel
theorem dX12_atom_54 : decode cX12_atom 54 = .ok (.invokevirtual 160, 3) := by decide +kernel
theorem dX12_atom_57 : decode cX12_atom 57 = .ok (.ifCond .ne 5, 3) := by decide +kernel
theorem dX12_atom_60 : decode cX12_atom 60 = .ok (.iconst 0, 1) := by decide +kernel
theorem dX12_atom_61 : decode cX12_atom 61 = .ok (.ireturn, 1) := by decide +kernel
theorem dX12_atom_62 : decode cX12_atom 62 = .ok (.aload_n 0, 1) := by decide +kernel
theorem dX12_atom_63 : decode cX12_atom 63 = .ok (.dup, 1) := by decide +kernel
theorem dX12_atom_64 : decode cX12_atom 64 = .ok (.getfield 127, 3) := by decide +kernel
theorem dX12_atom_67 : decode cX12_atom 67 = .ok (.iconst 1, 1) := by decide +kernel
theorem dX12_atom_68 : decode cX12_atom 68 = .ok (.isub, 1) := by decide +kernel
theorem dX12_atom_69 : decode cX12_atom 69 = .ok (.putfield 127, 3) := by decide +kernel
theorem dX12_atom_72 : decode cX12_atom 72 = .ok (.iload_n 2, 1) := by decide +kernel
theorem dX12_atom_73 : decode cX12_atom 73 = .ok (.ireturn, 1) := by decide +kernel
theorem dX12_atom_74 : decode cX12_atom 74 = .ok (.aload_n 0, 1) := by decide +kernel
theorem dX12_atom_75 : decode cX12_atom 75 = .ok (.invokevirtual 164, 3) := by decide +kernel
theorem dX12_atom_78 : decode cX12_atom 78 = .ok (.ifCond .ne 8, 3) := by decide +kernel
theorem dX12_atom_81 : decode cX12_atom 81 = .ok (.aload_n 0, 1) := by decide +kernel
theorem dX12_atom_82 : decode cX12_atom 82 = .ok (.invokevirtual 130, 3) := by decide +kernel
theorem dX12_atom_85 : decode cX12_atom 85 = .ok (.pop, 1) := by decide +kernel
theorem dX12_atom_86 : decode cX12_atom 86 = .ok (.iconst 0, 1) := by decide +kernel
theorem dX12_atom_87 : decode cX12_atom 87 = .ok (.istore_n 2, 1) := by decide +kernel
theorem dX12_atom_88 : decode cX12_atom 88 = .ok (.iconst 0, 1) := by decide +kernel
theorem dX12_atom_89 : decode cX12_atom 89 = .ok (.istore_n 3, 1) := by decide +kernel
theorem dX12_atom_90 : decode cX12_atom 90 = .ok (.aload_n 0, 1) := by decide +kernel
theorem dX12_atom_91 : decode cX12_atom 91 = .ok (.invokevirtual 164, 3) := by decide +kernel
theorem dX12_atom_94 : decode cX12_atom 94 = .ok (.ifCond .eq 62, 3) := by decide +kernel
theorem dX12_atom_97 : decode cX12_atom 97 = .ok (.aload_n 0, 1) := by decide +kernel
theorem dX12_atom_98 : decode cX12_atom 98 = .ok (.getfield 124, 3) := by decide +kernel
theorem dX12_atom_101 : decode cX12_atom 101 = .ok (.iconst (-1), 1) := by decide +kernel
theorem dX12_atom_102 : decode cX12_atom 102 = .ok (.if_icmp .ne 54, 3) := by decide +kernel
theorem dX12_atom_105 : decode cX12_atom 105 = .ok (.iload_n 3, 1) := by decide +kernel
theorem dX12_atom_106 : decode cX12_atom 106 = .ok (.iconst 4, 1) := by decide +kernel
theorem dX12_atom_107 : decode cX12_atom 107 = .ok (.if_icmp .ne 10, 3) := by decide +kernel
theorem dX12_atom_110 : decode cX12_atom 110 = .ok (.aload_n 0, 1) := by decide +kernel
theorem dX12_atom_111 : decode cX12_atom 111 = .ok (.invokevirtual 130, 3) := by decide +kernel
theorem dX12_atom_114 : decode cX12_atom 114 = .ok (.pop, 1) := by decide +kernel
theorem dX12_atom_115 : decode cX12_atom 115 = .ok (.iconst 0, 1) := by decide +kernel
theorem dX12_atom_116 : decode cX12_atom 116 = .ok (.ireturn, 1) := by decide +kernel
theorem dX12_atom_117 : decode cX12_atom 117 = .ok (.bipush 10, 2) := by decide +kernel
theorem dX12_atom_119 : decode cX12_atom 119 = .ok (.iload_n 2, 1) := by decide +kernel
theorem dX12_atom_120 : decode cX12_atom 120 = .ok (.imul, 1) := by decide +kernel
theorem dX12_atom_121 : decode cX12_atom 121 = .ok (.aload_n 0, 1) := by decide +kernel
theorem dX12_atom_122 : decode cX12_atom 122 = .ok (.getfield 23, 3) := by decide +kernel
theorem dX12_atom_125 : decode cX12_atom 125 = .ok (.aload_n 0, 1) := by decide +kernel
theorem dX12_atom_126 : decode cX12_atom 126 = .ok (.getfield 121, 3) := by decide +kernel
theorem dX12_atom_129 : decode cX12_atom 129 = .ok (.aload_n 0, 1) := by decide +kernel
theorem dX12_atom_130 : decode cX12_atom 130 = .ok (.getfield 115, 3) := by decide +kernel
theorem dX12_atom_133 : decode cX12_atom 133 = .ok (.iadd, 1) := by decide +kernel
theorem dX12_atom_134 : decode cX12_atom 134 = .ok (.baload, 1) := by decide +kernel
theorem dX12_atom_135 : decode cX12_atom 135 = .ok (.iadd, 1) := by decide +kernel
theorem dX12_atom_136 : decode cX12_atom 136 = .ok (.bipush 48, 2) := by decide +kernel
theorem dX12_atom_138 : decode cX12_atom 138 = .ok (.isub, 1) := by decide +kernel
theorem dX12_atom_139 : decode cX12_atom 139 = .ok (.istore_n 2, 1) := by decide +kernel
theorem dX12_atom_140 : decode cX12_atom 140 = .ok (.aload_n 0, 1) := by decide +kernel
theorem dX12_atom_141 : decode cX12_atom 141 = .ok (.dup, 1) := by decide +kernel
theorem dX12_atom_142 : decode cX12_atom 142 = .ok (.getfield 115, 3) := by decide +kernel
theorem dX12_atom_145 : decode cX12_atom 145 = .ok (.iconst 1, 1) := by decide +kernel
theorem dX12_atom_146 : decode cX12_atom 146 = .ok (.iadd, 1) := by decide +kernel
theorem dX12_atom_147 : decode cX12_atom 147 = .ok (.putfield 115, 3) := by decide +kernel
theorem dX12_atom_150 : decode cX12_atom 150 = .ok (.iinc 3 1, 3) := by decide +kernel
theorem dX12_atom_153 : decode cX12_atom 153 = .ok (.goto (-63), 3) := by decide +kernel
theorem dX12_atom_156 : decode cX12_atom 156 = .ok (.iload_n 2, 1) := by decide +kernel
theorem dX12_atom_157 : decode cX12_atom 157 = .ok (.ireturn, 1) := by decide +kernel
theorem dX12_term_0 : decode cX12_term 0 = .ok (.aload_n 0, 1) := by decide +kernel
theorem dX12_term_1 : decode cX12_term 1 = .ok (.invokevirtual 167, 3) := by decide +kernel
theorem dX12_term_4 : decode cX12_term 4 = .ok (.istore_n 1, 1) := by decide +kernel
theorem dX12_term_5 : decode cX12_term 5 = .ok (.aload_n 0, 1) := by decide +kernel
theorem dX12_term_6 : decode cX12_term 6 = .ok (.getfield 124, 3) := by decide +kernel
theorem dX12_term_9 : decode cX12_term 9 = .ok (.iconst (-1), 1) := by decide +kernel
theorem dX12_term_10 : decode cX12_term 10 = .ok (.if_icmp .ne 84, 3) := by decide +kernel
theorem dX12_term_13 : decode cX12_term 13 = .ok (.aload_n 0, 1) := by decide +kernel
theorem dX12_term_14 : decode cX12_term 14 = .ok (.invokevirtual 134, 3) := by decide +kernel
theorem dX12_term_17 : decode cX12_term 17 = .ok (.bipush 42, 2) := by decide +kernel
theorem dX12_term_19 : decode cX12_term 19 = .ok (.if_icmp .eq 12, 3) := by decide +kernel
theorem dX12_term_22 : decode cX12_term 22 = .ok (.aload_n 0, 1) := by decide +kernel
theorem dX12_term_23 : decode cX12_term 23 = .ok (.invokevirtual 134, 3) := by decide +kernel
theorem dX12_term_26 : decode cX12_term 26 = .ok (.bipush 47, 2) := by decide +kernel
theorem dX12_term_28 : decode cX12_term 28 = .ok (.if_icmp .ne 66, 3) := by decide +kernel
theorem dX12_term_31 : decode cX12_term 31 = .ok (.aload_n 0, 1) := by decide +kernel
theorem dX12_term_32 : decode cX12_term 32 = .ok (.invokevirtual 134, 3) := by decide +kernel
theorem dX12_term_35 : decode cX12_term 35 = .ok (.bipush 42, 2) := by decide +kernel
theorem dX12_term_37 : decode cX12_term 37 = .ok (.if_icmp .ne 7, 3) := by decide +kernel
theorem dX12_term_40 : decode cX12_term 40 = .ok (.iconst 1, 1) := by decide +kernel
theorem dX12_term_41 : decode cX12_term 41 = .ok (.goto 4, 3) := by decide +kernel
theorem dX12_term_44 : decode cX12_term 44 = .ok (.iconst 0, 1) := by decide +kernel
theorem dX12_term_45 : decode cX12_term 45 = .ok (.istore_n 2, 1) := by decide +kernel
theorem dX12_term_46 : decode cX12_term 46 = .ok (.aload_n 0, 1) := by decide +kernel
theorem dX12_term_47 : decode cX12_term 47 = .ok (.dup, 1) := by decide +kernel
theorem dX12_term_48 : decode cX12_term 48 = .ok (.getfield 115, 3) := by decide +kernel
theorem dX12_term_51 : decode cX12_term 51 = .ok (.iconst 1, 1) := by decide +kernel
theorem dX12_term_52 : decode cX12_term 52 = .ok (.iadd, 1) := by decide +kernel
theorem dX12_term_53 : decode cX12_term 53 = .ok (.putfield 115, 3) := by decide +kernel
theorem dX12_term_56 : decode cX12_term 56 = .ok (.aload_n 0, 1) := by decide +kernel
theorem dX12_term_57 : decode cX12_term 57 = .ok (.invokevirtual 167, 3) := by decide +kernel
theorem dX12_term_60 : decode cX12_term 60 = .ok (.i2l, 1) := by decide +kernel
theorem dX12_term_61 : decode cX12_term 61 = .ok (.lstore_n 3, 1) := by decide +kernel
theorem dX12_term_62 : decode cX12_term 62 = .ok (.iload_n 2, 1) := by decide +kernel
theorem dX12_term_63 : decode cX12_term 63 = .ok (.ifCond .eq 10, 3) := by decide +kernel
theorem dX12_term_66 : decode cX12_term 66 = .ok (.iload_n 1, 1) := by decide +kernel
theorem dX12_term_67 : decode cX12_term 67 = .ok (.i2l, 1) := by decide +kernel
theorem dX12_term_68 : decode cX12_term 68 = .ok (.lload_n 3, 1) := by decide +kernel
theorem dX12_term_69 : decode cX12_term 69 = .ok (.lmul, 1) := by decide +kernel
theorem dX12_term_70 : decode cX12_term 70 = .ok (.goto 17, 3) := by decide +kernel
theorem dX12_term_73 : decode cX12_term 73 = .ok (.lload_n 3, 1) := by decide +kernel
theorem dX12_term_74 : decode cX12_term 74 = .ok (.lconst 0, 1) := by decide +kernel
theorem dX12_term_75 : decode cX12_term 75 = .ok (.lcmp, 1) := by decide +kernel
theorem dX12_term_76 : decode cX12_term 76 = .ok (.ifCond .ne 7, 3) := by decide +kernel
theorem dX12_term_79 : decode cX12_term 79 = .ok (.lconst 0, 1) := by decide +kernel
theorem dX12_term_80 : decode cX12_term 80 = .ok (.goto 7, 3) := by decide +kernel
theorem dX12_term_83 : decode cX12_term 83 = .ok (.iload_n 1, 1) := by decide +kernel
theorem dX12_term_84 : decode cX12_term 84 = .ok (.i2l, 1) := by decide +kernel
theorem dX12_term_85 : decode cX12_term 85 = .ok (.lload_n 3, 1) := by decide +kernel
theorem dX12_term_86 : decode cX12_term 86 = .ok (.ldiv, 1) := by decide +kernel
theorem dX12_term_87 : decode cX12_term 87 = .ok (.invokestatic 170, 3) := by decide +kernel
theorem dX12_term_90 : decode cX12_term 90 = .ok (.istore_n 1, 1) := by decide +kernel
theorem dX12_term_91 : decode cX12_term 91 = .ok (.goto (-86), 3) := by decide +kernel
theorem dX12_term_94 : decode cX12_term 94 = .ok (.iload_n 1, 1) := by decide +kernel
theorem dX12_term_95 : decode cX12_term 95 = .ok (.ireturn, 1) := by decide +kernel
theorem dX12_sum_0 : decode cX12_sum 0 = .ok (.aload_n 0, 1) := by decide +kernel
theorem dX12_sum_1 : decode cX12_sum 1 = .ok (.invokevirtual 174, 3) := by decide +kernel
theorem dX12_sum_4 : decode cX12_sum 4 = .ok (.istore_n 1, 1) := by decide +kernel
theorem dX12_sum_5 : decode cX12_sum 5 = .ok (.aload_n 0, 1) := by decide +kernel
theorem dX12_sum_6 : decode cX12_sum 6 = .ok (.getfield 124, 3) := by decide +kernel
theorem dX12_sum_9 : decode cX12_sum 9 = .ok (.iconst (-1), 1) := by decide +kernel
theorem dX12_sum_10 : decode cX12_sum 10 = .ok (.if_icmp .ne 74, 3) := by decide +kernel
theorem dX12_sum_13 : decode cX12_sum 13 = .ok (.aload_n 0, 1) := by decide +kernel
theorem dX12_sum_14 : decode cX12_sum 14 = .ok (.invokevirtual 134, 3) := by decide +kernel
theorem dX12_sum_17 : decode cX12_sum 17 = .ok (.bipush 43, 2) := by decide +kernel
theorem dX12_sum_19 : decode cX12_sum 19 = .ok (.if_icmp .eq 12, 3) := by decide +kernel
theorem dX12_sum_22 : decode cX12_sum 22 = .ok (.aload_n 0, 1) := by decide +kernel
theorem dX12_sum_23 : decode cX12_sum 23 = .ok (.invokevirtual 134, 3) := by decide +kernel
theorem dX12_sum_26 : decode cX12_sum 26 = .ok (.bipush 45, 2) := by decide +kernel
theorem dX12_sum_28 : decode cX12_sum 28 = .ok (.if_icmp .ne 56, 3) := by decide +kernel
theorem dX12_sum_31 : decode cX12_sum 31 = .ok (.aload_n 0, 1) := by decide +kernel
theorem dX12_sum_32 : decode cX12_sum 32 = .ok (.invokevirtual 134, 3) := by decide +kernel
theorem dX12_sum_35 : decode cX12_sum 35 = .ok (.bipush 43, 2) := by decide +kernel
theorem dX12_sum_37 : decode cX12_sum 37 = .ok (.if_icmp .ne 7, 3) := by decide +kernel
theorem dX12_sum_40 : decode cX12_sum 40 = .ok (.iconst 1, 1) := by decide +kernel
theorem dX12_sum_41 : decode cX12_sum 41 = .ok (.goto 4, 3) := by decide +kernel
theorem dX12_sum_44 : decode cX12_sum 44 = .ok (.iconst 0, 1) := by decide +kernel
theorem dX12_sum_45 : decode cX12_sum 45 = .ok (.istore_n 2, 1) := by decide +kernel
theorem dX12_sum_46 : decode cX12_sum 46 = .ok (.aload_n 0, 1) := by decide +kernel
theorem dX12_sum_47 : decode cX12_sum 47 = .ok (.dup, 1) := by decide +kernel
theorem dX12_sum_48 : decode cX12_sum 48 = .ok (.getfield 115, 3) := by decide +kernel
theorem dX12_sum_51 : decode cX12_sum 51 = .ok (.iconst 1, 1) := by decide +kernel
theorem dX12_sum_52 : decode cX12_sum 52 = .ok (.iadd, 1) := by decide +kernel
theorem dX12_sum_53 : decode cX12_sum 53 = .ok (.putfield 115, 3) := by decide +kernel
theorem dX12_sum_56 : decode cX12_sum 56 = .ok (.aload_n 0, 1) := by decide +kernel
theorem dX12_sum_57 : decode cX12_sum 57 = .ok (.invokevirtual 174, 3) := by decide +kernel
theorem dX12_sum_60 : decode cX12_sum 60 = .ok (.i2l, 1) := by decide +kernel
theorem dX12_sum_61 : decode cX12_sum 61 = .ok (.lstore_n 3, 1) := by decide +kernel
theorem dX12_sum_62 : decode cX12_sum 62 = .ok (.iload_n 2, 1) := by decide +kernel
theorem dX12_sum_63 : decode cX12_sum 63 = .ok (.ifCond .eq 10, 3) := by decide +kernel
theorem dX12_sum_66 : decode cX12_sum 66 = .ok (.iload_n 1, 1) := by decide +kernel
theorem dX12_sum_67 : decode cX12_sum 67 = .ok (.i2l, 1) := by decide +kernel
theorem dX12_sum_68 : decode cX12_sum 68 = .ok (.lload_n 3, 1) := by decide +kernel
theorem dX12_sum_69 : decode cX12_sum 69 = .ok (.ladd, 1) := by decide +kernel
theorem dX12_sum_70 : decode cX12_sum 70 = .ok (.goto 7, 3) := by decide +kernel
theorem dX12_sum_73 : decode cX12_sum 73 = .ok (.iload_n 1, 1) := by decide +kernel
theorem dX12_sum_74 : decode cX12_sum 74 = .ok (.i2l, 1) := by decide +kernel
theorem dX12_sum_75 : decode cX12_sum 75 = .ok (.lload_n 3, 1) := by decide +kernel
theorem dX12_sum_76 : decode cX12_sum 76 = .ok (.lsub, 1) := by decide +kernel
theorem dX12_sum_77 : decode cX12_sum 77 = .ok (.invokestatic 170, 3) := by decide +kernel
theorem dX12_sum_80 : decode cX12_sum 80 = .ok (.istore_n 1, 1) := by decide +kernel
theorem dX12_sum_81 : decode cX12_sum 81 = .ok (.goto (-76), 3) := by decide +kernel
theorem dX12_sum_84 : decode cX12_sum 84 = .ok (.iload_n 1, 1) := by decide +kernel
theorem dX12_sum_85 : decode cX12_sum 85 = .ok (.ireturn, 1) := by decide +kernel
theorem dX12_isSign_0 : decode cX12_isSign 0 = .ok (.iload_n 0, 1) := by decide +kernel
theorem dX12_isSign_1 : decode cX12_isSign 1 = .ok (.bipush 61, 2) := by decide +kernel
theorem dX12_isSign_3 : decode cX12_isSign 3 = .ok (.if_icmp .eq 15, 3) := by decide +kernel
theorem dX12_isSign_6 : decode cX12_isSign 6 = .ok (.iload_n 0, 1) := by decide +kernel
theorem dX12_isSign_7 : decode cX12_isSign 7 = .ok (.bipush 60, 2) := by decide +kernel
theorem dX12_isSign_9 : decode cX12_isSign 9 = .ok (.if_icmp .eq 9, 3) := by decide +kernel
theorem dX12_isSign_12 : decode cX12_isSign 12 = .ok (.iload_n 0, 1) := by decide +kernel
theorem dX12_isSign_13 : decode cX12_isSign 13 = .ok (.bipush 62, 2) := by decide +kernel
theorem dX12_isSign_15 : decode cX12_isSign 15 = .ok (.if_icmp .ne 7, 3) := by decide +kernel
theorem dX12_isSign_18 : decode cX12_isSign 18 = .ok (.iconst 1, 1) := by decide +kernel
theorem dX12_isSign_19 : decode cX12_isSign 19 = .ok (.goto 4, 3) := by decide +kernel
theorem dX12_isSign_22 : decode cX12_isSign 22 = .ok (.iconst 0, 1) := by decide +kernel
theorem dX12_isSign_23 : decode cX12_isSign 23 = .ok (.ireturn, 1) := by decide +kernel
theorem dX12_compares_0 : decode cX12_compares 0 = .ok (.iload_n 1, 1) := by decide +kernel
theorem dX12_compares_1 : decode cX12_compares 1 = .ok (.ifCond .eq 7, 3) := by decide +kernel
theorem dX12_compares_4 : decode cX12_compares 4 = .ok (.iload_n 2, 1) := by decide +kernel
theorem dX12_compares_5 : decode cX12_compares 5 = .ok (.goto 7, 3) := by decide +kernel
theorem dX12_compares_8 : decode cX12_compares 8 = .ok (.aload_n 0, 1) := by decide +kernel
theorem dX12_compares_9 : decode cX12_compares 9 = .ok (.invokevirtual 157, 3) := by decide +kernel
theorem dX12_compares_12 : decode cX12_compares 12 = .ok (.istore_n 3, 1) := by decide +kernel
theorem dX12_compares_13 : decode cX12_compares 13 = .ok (.aload_n 0, 1) := by decide +kernel
theorem dX12_compares_14 : decode cX12_compares 14 = .ok (.getfield 124, 3) := by decide +kernel
theorem dX12_compares_17 : decode cX12_compares 17 = .ok (.iconst (-1), 1) := by decide +kernel
theorem dX12_compares_18 : decode cX12_compares 18 = .ok (.if_icmp .eq 5, 3) := by decide +kernel
theorem dX12_compares_21 : decode cX12_compares 21 = .ok (.iconst 0, 1) := by decide +kernel
theorem dX12_compares_22 : decode cX12_compares 22 = .ok (.ireturn, 1) := by decide +kernel
theorem dX12_compares_23 : decode cX12_compares 23 = .ok (.aload_n 0, 1) := by decide +kernel
theorem dX12_compares_24 : decode cX12_compares 24 = .ok (.invokevirtual 134, 3) := by decide +kernel
theorem dX12_compares_27 : decode cX12_compares 27 = .ok (.istore 4, 2) := by decide +kernel
theorem dX12_compares_29 : decode cX12_compares 29 = .ok (.iload 4, 2) := by decide +kernel
theorem dX12_compares_31 : decode cX12_compares 31 = .ok (.invokestatic 177, 3) := by decide +kernel
theorem dX12_compares_34 : decode cX12_compares 34 = .ok (.ifCond .ne 8, 3) := by decide +kernel
theorem dX12_compares_37 : decode cX12_compares 37 = .ok (.aload_n 0, 1) := by decide +kernel
theorem dX12_compares_38 : decode cX12_compares 38 = .ok (.invokevirtual 130, 3) := by decide +kernel
theorem dX12_compares_41 : decode cX12_compares 41 = .ok (.ireturn, 1) := by decide +kernel
theorem dX12_compares_42 : decode cX12_compares 42 = .ok (.aload_n 0, 1) := by decide +kernel
theorem dX12_compares_43 : decode cX12_compares 43 = .ok (.dup, 1) := by decide +kernel
theorem dX12_compares_44 : decode cX12_compares 44 = .ok (.getfield 115, 3) := by decide +kernel
theorem dX12_compares_47 : decode cX12_compares 47 = .ok (.iconst 1, 1) := by decide +kernel
theorem dX12_compares_48 : decode cX12_compares 48 = .ok (.iadd, 1) := by decide +kernel
theorem dX12_compares_49 : decode cX12_compares 49 = .ok (.putfield 115, 3) := by decide +kernel
theorem dX12_compares_52 : decode cX12_compares 52 = .ok (.aload_n 0, 1) := by decide +kernel
theorem dX12_compares_53 : decode cX12_compares 53 = .ok (.invokevirtual 157, 3) := by decide +kernel
theorem dX12_compares_56 : decode cX12_compares 56 = .ok (.istore 5, 2) := by decide +kernel
theorem dX12_compares_58 : decode cX12_compares 58 = .ok (.iload 4, 2) := by decide +kernel
theorem dX12_compares_60 : decode cX12_compares 60 = .ok (.bipush 61, 2) := by decide +kernel
theorem dX12_compares_62 : decode cX12_compares 62 = .ok (.if_icmp .ne 17, 3) := by decide +kernel
theorem dX12_compares_65 : decode cX12_compares 65 = .ok (.iload_n 3, 1) := by decide +kernel
theorem dX12_compares_66 : decode cX12_compares 66 = .ok (.iload 5, 2) := by decide +kernel
theorem dX12_compares_68 : decode cX12_compares 68 = .ok (.if_icmp .ne 7, 3) := by decide +kernel
theorem dX12_compares_71 : decode cX12_compares 71 = .ok (.iconst 1, 1) := by decide +kernel
theorem dX12_compares_72 : decode cX12_compares 72 = .ok (.goto 39, 3) := by decide +kernel
theorem dX12_compares_75 : decode cX12_compares 75 = .ok (.iconst 0, 1) := by decide +kernel
theorem dX12_compares_76 : decode cX12_compares 76 = .ok (.goto 35, 3) := by decide +kernel
theorem dX12_compares_79 : decode cX12_compares 79 = .ok (.iload 4, 2) := by decide +kernel
theorem dX12_compares_81 : decode cX12_compares 81 = .ok (.bipush 60, 2) := by decide +kernel
theorem dX12_compares_83 : decode cX12_compares 83 = .ok (.if_icmp .ne 17, 3) := by decide +kernel
theorem dX12_compares_86 : decode cX12_compares 86 = .ok (.iload_n 3, 1) := by decide +kernel
theorem dX12_compares_87 : decode cX12_compares 87 = .ok (.iload 5, 2) := by decide +kernel
theorem dX12_compares_89 : decode cX12_compares 89 = .ok (.if_icmp .ge 7, 3) := by decide +kernel
theorem dX12_compares_92 : decode cX12_compares 92 = .ok (.iconst 1, 1) := by decide +kernel
theorem dX12_compares_93 : decode cX12_compares 93 = .ok (.goto 18, 3) := by decide +kernel
theorem dX12_compares_96 : decode cX12_compares 96 = .ok (.iconst 0, 1) := by decide +kernel
theorem dX12_compares_97 : decode cX12_compares 97 = .ok (.goto 14, 3) := by decide +kernel
theorem dX12_compares_100 : decode cX12_compares 100 = .ok (.iload_n 3, 1) := by decide +kernel
theorem dX12_compares_101 : decode cX12_compares 101 = .ok (.iload 5, 2) := by decide +kernel
theorem dX12_compares_103 : decode cX12_compares 103 = .ok (.if_icmp .le 7, 3) := by decide +kernel
theorem dX12_compares_106 : decode cX12_compares 106 = .ok (.iconst 1, 1) := by decide +kernel
theorem dX12_compares_107 : decode cX12_compares 107 = .ok (.goto 4, 3) := by decide +kernel
theorem dX12_compares_110 : decode cX12_compares 110 = .ok (.iconst 0, 1) := by decide +kernel
theorem dX12_compares_111 : decode cX12_compares 111 = .ok (.ireturn, 1) := by decide +kernel
theorem dX12_unit_0 : decode cX12_unit 0 = .ok (.aload_n 0, 1) := by decide +kernel
theorem dX12_unit_1 : decode cX12_unit 1 = .ok (.invokevirtual 134, 3) := by decide +kernel
theorem dX12_unit_4 : decode cX12_unit 4 = .ok (.istore_n 1, 1) := by decide +kernel
theorem dX12_unit_5 : decode cX12_unit 5 = .ok (.iload_n 1, 1) := by decide +kernel
theorem dX12_unit_6 : decode cX12_unit 6 = .ok (.bipush 33, 2) := by decide +kernel
theorem dX12_unit_8 : decode cX12_unit 8 = .ok (.if_icmp .ne 37, 3) := by decide +kernel
theorem dX12_unit_11 : decode cX12_unit 11 = .ok (.aload_n 0, 1) := by decide +kernel
theorem dX12_unit_12 : decode cX12_unit 12 = .ok (.invokevirtual 154, 3) := by decide +kernel
theorem dX12_unit_15 : decode cX12_unit 15 = .ok (.ifCond .ne 5, 3) := by decide +kernel
theorem dX12_unit_18 : decode cX12_unit 18 = .ok (.iconst 0, 1) := by decide +kernel
theorem dX12_unit_19 : decode cX12_unit 19 = .ok (.ireturn, 1) := by decide +kernel
theorem dX12_unit_20 : decode cX12_unit 20 = .ok (.aload_n 0, 1) := by decide +kernel
theorem dX12_unit_21 : decode cX12_unit 21 = .ok (.invokevirtual 180, 3) := by decide +kernel
theorem dX12_unit_24 : decode cX12_unit 24 = .ok (.istore_n 2, 1) := by decide +kernel
theorem dX12_unit_25 : decode cX12_unit 25 = .ok (.aload_n 0, 1) := by decide +kernel
theorem dX12_unit_26 : decode cX12_unit 26 = .ok (.dup, 1) := by decide +kernel
theorem dX12_unit_27 : decode cX12_unit 27 = .ok (.getfield 127, 3) := by decide +kernel
theorem dX12_unit_30 : decode cX12_unit 30 = .ok (.iconst 1, 1) := by decide +kernel
theorem dX12_unit_31 : decode cX12_unit 31 = .ok (.isub, 1) := by decide +kernel
theorem dX12_unit_32 : decode cX12_unit 32 = .ok (.putfield 127, 3) := by decide +kernel
theorem dX12_unit_35 : decode cX12_unit 35 = .ok (.iload_n 2, 1) := by decide +kernel
theorem dX12_unit_36 : decode cX12_unit 36 = .ok (.ifCond .ne 7, 3) := by decide +kernel
theorem dX12_unit_39 : decode cX12_unit 39 = .ok (.iconst 1, 1) := by decide +kernel
theorem dX12_unit_40 : decode cX12_unit 40 = .ok (.goto 4, 3) := by decide +kernel
theorem dX12_unit_43 : decode cX12_unit 43 = .ok (.iconst 0, 1) := by decide +kernel
theorem dX12_unit_44 : decode cX12_unit 44 = .ok (.ireturn, 1) := by decide +kernel
theorem dX12_unit_45 : decode cX12_unit 45 = .ok (.iload_n 1, 1) := by decide +kernel
theorem dX12_unit_46 : decode cX12_unit 46 = .ok (.bipush 40, 2) := by decide +kernel
theorem dX12_unit_48 : decode cX12_unit 48 = .ok (.if_icmp .ne 42, 3) := by decide +kernel
theorem dX12_unit_51 : decode cX12_unit 51 = .ok (.aload_n 0, 1) := by decide +kernel
theorem dX12_unit_52 : decode cX12_unit 52 = .ok (.invokevirtual 154, 3) := by decide +kernel
theorem dX12_unit_55 : decode cX12_unit 55 = .ok (.ifCond .ne 5, 3) := by decide +kernel
theorem dX12_unit_58 : decode cX12_unit 58 = .ok (.iconst 0, 1) := by decide +kernel
theorem dX12_unit_59 : decode cX12_unit 59 = .ok (.ireturn, 1) := by decide +kernel
theorem dX12_unit_60 : decode cX12_unit 60 = .ok (.aload_n 0, 1) := by decide +kernel
theorem dX12_unit_61 : decode cX12_unit 61 = .ok (.iconst 0, 1) := by decide +kernel
theorem dX12_unit_62 : decode cX12_unit 62 = .ok (.iconst 0, 1) := by decide +kernel
theorem dX12_unit_63 : decode cX12_unit 63 = .ok (.invokevirtual 183, 3) := by decide +kernel
theorem dX12_unit_66 : decode cX12_unit 66 = .ok (.istore_n 2, 1) := by decide +kernel
theorem dX12_unit_67 : decode cX12_unit 67 = .ok (.aload_n 0, 1) := by decide +kernel
theorem dX12_unit_68 : decode cX12_unit 68 = .ok (.bipush 41, 2) := by decide +kernel
theorem dX12_unit_70 : decode cX12_unit 70 = .ok (.invokevirtual 160, 3) := by decide +kernel
theorem dX12_unit_73 : decode cX12_unit 73 = .ok (.ifCond .ne 5, 3) := by decide +kernel
theorem dX12_unit_76 : decode cX12_unit 76 = .ok (.iconst 0, 1) := by decide +kernel
theorem dX12_unit_77 : decode cX12_unit 77 = .ok (.ireturn, 1) := by decide +kernel
theorem dX12_unit_78 : decode cX12_unit 78 = .ok (.aload_n 0, 1) := by decide +kernel
theorem dX12_unit_79 : decode cX12_unit 79 = .ok (.dup, 1) := by decide +kernel
theorem dX12_unit_80 : decode cX12_unit 80 = .ok (.getfield 127, 3) := by decide +kernel
theorem dX12_unit_83 : decode cX12_unit 83 = .ok (.iconst 1, 1) := by decide +kernel
theorem dX12_unit_84 : decode cX12_unit 84 = .ok (.isub, 1) := by decide +kernel
theorem dX12_unit_85 : decode cX12_unit 85 = .ok (.putfield 127, 3) := by decide +kernel
theorem dX12_unit_88 : decode cX12_unit 88 = .ok (.iload_n 2, 1) := by decide +kernel
theorem dX12_unit_89 : decode cX12_unit 89 = .ok (.ireturn, 1) := by decide +kernel
theorem dX12_unit_90 : decode cX12_unit 90 = .ok (.aload_n 0, 1) := by decide +kernel
theorem dX12_unit_91 : decode cX12_unit 91 = .ok (.iconst 0, 1) := by decide +kernel
theorem dX12_unit_92 : decode cX12_unit 92 = .ok (.iconst 0, 1) := by decide +kernel
theorem dX12_unit_93 : decode cX12_unit 93 = .ok (.invokevirtual 187, 3) := by decide +kernel
theorem dX12_unit_96 : decode cX12_unit 96 = .ok (.ireturn, 1) := by decide +kernel
theorem dX12_part_0 : decode cX12_part 0 = .ok (.iload_n 1, 1) := by decide +kernel
theorem dX12_part_1 : decode cX12_part 1 = .ok (.ifCond .eq 12, 3) := by decide +kernel
theorem dX12_part_4 : decode cX12_part 4 = .ok (.aload_n 0, 1) := by decide +kernel
theorem dX12_part_5 : decode cX12_part 5 = .ok (.iconst 1, 1) := by decide +kernel
theorem dX12_part_6 : decode cX12_part 6 = .ok (.iload_n 2, 1) := by decide +kernel
theorem dX12_part_7 : decode cX12_part 7 = .ok (.invokevirtual 187, 3) := by decide +kernel
theorem dX12_part_10 : decode cX12_part 10 = .ok (.goto 7, 3) := by decide +kernel
theorem dX12_part_13 : decode cX12_part 13 = .ok (.aload_n 0, 1) := by decide +kernel
theorem dX12_part_14 : decode cX12_part 14 = .ok (.invokevirtual 180, 3) := by decide +kernel
theorem dX12_part_17 : decode cX12_part 17 = .ok (.istore_n 3, 1) := by decide +kernel
theorem dX12_part_18 : decode cX12_part 18 = .ok (.aload_n 0, 1) := by decide +kernel
theorem dX12_part_19 : decode cX12_part 19 = .ok (.getfield 124, 3) := by decide +kernel
theorem dX12_part_22 : decode cX12_part 22 = .ok (.iconst (-1), 1) := by decide +kernel
theorem dX12_part_23 : decode cX12_part 23 = .ok (.if_icmp .ne 46, 3) := by decide +kernel
theorem dX12_part_26 : decode cX12_part 26 = .ok (.aload_n 0, 1) := by decide +kernel
theorem dX12_part_27 : decode cX12_part 27 = .ok (.invokevirtual 134, 3) := by decide +kernel
theorem dX12_part_30 : decode cX12_part 30 = .ok (.bipush 38, 2) := by decide +kernel
theorem dX12_part_32 : decode cX12_part 32 = .ok (.if_icmp .ne 37, 3) := by decide +kernel
theorem dX12_part_35 : decode cX12_part 35 = .ok (.aload_n 0, 1) := by decide +kernel
theorem dX12_part_36 : decode cX12_part 36 = .ok (.dup, 1) := by decide +kernel
theorem dX12_part_37 : decode cX12_part 37 = .ok (.getfield 115, 3) := by decide +kernel
theorem dX12_part_40 : decode cX12_part 40 = .ok (.iconst 1, 1) := by decide +kernel
theorem dX12_part_41 : decode cX12_part 41 = .ok (.iadd, 1) := by decide +kernel
theorem dX12_part_42 : decode cX12_part 42 = .ok (.putfield 115, 3) := by decide +kernel
theorem dX12_part_45 : decode cX12_part 45 = .ok (.aload_n 0, 1) := by decide +kernel
theorem dX12_part_46 : decode cX12_part 46 = .ok (.invokevirtual 180, 3) := by decide +kernel
theorem dX12_part_49 : decode cX12_part 49 = .ok (.istore 4, 2) := by decide +kernel
theorem dX12_part_51 : decode cX12_part 51 = .ok (.iload_n 3, 1) := by decide +kernel
theorem dX12_part_52 : decode cX12_part 52 = .ok (.ifCond .eq 12, 3) := by decide +kernel
theorem dX12_part_55 : decode cX12_part 55 = .ok (.iload 4, 2) := by decide +kernel
theorem dX12_part_57 : decode cX12_part 57 = .ok (.ifCond .eq 7, 3) := by decide +kernel
theorem dX12_part_60 : decode cX12_part 60 = .ok (.iconst 1, 1) := by decide +kernel
theorem dX12_part_61 : decode cX12_part 61 = .ok (.goto 4, 3) := by decide +kernel
theorem dX12_part_64 : decode cX12_part 64 = .ok (.iconst 0, 1) := by decide +kernel
theorem dX12_part_65 : decode cX12_part 65 = .ok (.istore_n 3, 1) := by decide +kernel
theorem dX12_part_66 : decode cX12_part 66 = .ok (.goto (-48), 3) := by decide +kernel
theorem dX12_part_69 : decode cX12_part 69 = .ok (.iload_n 3, 1) := by decide +kernel
theorem dX12_part_70 : decode cX12_part 70 = .ok (.ireturn, 1) := by decide +kernel
theorem dX12_condition_0 : decode cX12_condition 0 = .ok (.aload_n 0, 1) := by decide +kernel
theorem dX12_condition_1 : decode cX12_condition 1 = .ok (.iload_n 1, 1) := by decide +kernel
theorem dX12_condition_2 : decode cX12_condition 2 = .ok (.iload_n 2, 1) := by decide +kernel
theorem dX12_condition_3 : decode cX12_condition 3 = .ok (.invokevirtual 190, 3) := by decide +kernel
theorem dX12_condition_6 : decode cX12_condition 6 = .ok (.istore_n 3, 1) := by decide +kernel
theorem dX12_condition_7 : decode cX12_condition 7 = .ok (.aload_n 0, 1) := by decide +kernel
theorem dX12_condition_8 : decode cX12_condition 8 = .ok (.getfield 124, 3) := by decide +kernel
theorem dX12_condition_11 : decode cX12_condition 11 = .ok (.iconst (-1), 1) := by decide +kernel
theorem dX12_condition_12 : decode cX12_condition 12 = .ok (.if_icmp .ne 48, 3) := by decide +kernel
theorem dX12_condition_15 : decode cX12_condition 15 = .ok (.aload_n 0, 1) := by decide +kernel
theorem dX12_condition_16 : decode cX12_condition 16 = .ok (.invokevirtual 134, 3) := by decide +kernel
theorem dX12_condition_19 : decode cX12_condition 19 = .ok (.bipush 124, 2) := by decide +kernel
theorem dX12_condition_21 : decode cX12_condition 21 = .ok (.if_icmp .ne 39, 3) := by decide +kernel
theorem dX12_condition_24 : decode cX12_condition 24 = .ok (.aload_n 0, 1) := by decide +kernel
theorem dX12_condition_25 : decode cX12_condition 25 = .ok (.dup, 1) := by decide +kernel
theorem dX12_condition_26 : decode cX12_condition 26 = .ok (.getfield 115, 3) := by decide +kernel
theorem dX12_condition_29 : decode cX12_condition 29 = .ok (.iconst 1, 1) := by decide +kernel
theorem dX12_condition_30 : decode cX12_condition 30 = .ok (.iadd, 1) := by decide +kernel
theorem dX12_condition_31 : decode cX12_condition 31 = .ok (.putfield 115, 3) := by decide +kernel
theorem dX12_condition_34 : decode cX12_condition 34 = .ok (.aload_n 0, 1) := by decide +kernel
theorem dX12_condition_35 : decode cX12_condition 35 = .ok (.iconst 0, 1) := by decide +kernel
theorem dX12_condition_36 : decode cX12_condition 36 = .ok (.iconst 0, 1) := by decide +kernel
theorem dX12_condition_37 : decode cX12_condition 37 = .ok (.invokevirtual 190, 3) := by decide +kernel
theorem dX12_condition_40 : decode cX12_condition 40 = .ok (.istore 4, 2) := by decide +kernel
theorem dX12_condition_42 : decode cX12_condition 42 = .ok (.iload_n 3, 1) := by decide +kernel
theorem dX12_condition_43 : decode cX12_condition 43 = .ok (.ifCond .ne 8, 3) := by decide +kernel
theorem dX12_condition_46 : decode cX12_condition 46 = .ok (.iload 4, 2) := by decide +kernel
theorem dX12_condition_48 : decode cX12_condition 48 = .ok (.ifCond .eq 7, 3) := by decide +kernel
theorem dX12_condition_51 : decode cX12_condition 51 = .ok (.iconst 1, 1) := by decide +kernel
theorem dX12_condition_52 : decode cX12_condition 52 = .ok (.goto 4, 3) := by decide +kernel
theorem dX12_condition_55 : decode cX12_condition 55 = .ok (.iconst 0, 1) := by decide +kernel
theorem dX12_condition_56 : decode cX12_condition 56 = .ok (.istore_n 3, 1) := by decide +kernel
theorem dX12_condition_57 : decode cX12_condition 57 = .ok (.goto (-50), 3) := by decide +kernel
theorem dX12_condition_60 : decode cX12_condition 60 = .ok (.iload_n 3, 1) := by decide +kernel
theorem dX12_condition_61 : decode cX12_condition 61 = .ok (.ireturn, 1) := by decide +kernel
theorem dX12_clause_0 : decode cX12_clause 0 = .ok (.aload_n 0, 1) := by decide +kernel
theorem dX12_clause_1 : decode cX12_clause 1 = .ok (.invokevirtual 134, 3) := by decide +kernel
theorem dX12_clause_4 : decode cX12_clause 4 = .ok (.istore_n 1, 1) := by decide +kernel
theorem dX12_clause_5 : decode cX12_clause 5 = .ok (.ldc 26, 2) := by decide +kernel
theorem dX12_clause_7 : decode cX12_clause 7 = .ok (.iload_n 1, 1) := by decide +kernel
theorem dX12_clause_8 : decode cX12_clause 8 = .ok (.invokestatic 150, 3) := by decide +kernel
theorem dX12_clause_11 : decode cX12_clause 11 = .ok (.ifCond .ne 9, 3) := by decide +kernel
theorem dX12_clause_14 : decode cX12_clause 14 = .ok (.aload_n 0, 1) := by decide +kernel
theorem dX12_clause_15 : decode cX12_clause 15 = .ok (.invokevirtual 130, 3) := by decide +kernel
theorem dX12_clause_18 : decode cX12_clause 18 = .ok (.pop, 1) := by decide +kernel
theorem dX12_clause_19 : decode cX12_clause 19 = .ok (.return_, 1) := by decide +kernel
theorem dX12_clause_20 : decode cX12_clause 20 = .ok (.aload_n 0, 1) := by decide +kernel
theorem dX12_clause_21 : decode cX12_clause 21 = .ok (.dup, 1) := by decide +kernel
theorem dX12_clause_22 : decode cX12_clause 22 = .ok (.getfield 115, 3) := by decide +kernel
theorem dX12_clause_25 : decode cX12_clause 25 = .ok (.iconst 1, 1) := by decide +kernel
theorem dX12_clause_26 : decode cX12_clause 26 = .ok (.iadd, 1) := by decide +kernel
theorem dX12_clause_27 : decode cX12_clause 27 = .ok (.putfield 115, 3) := by decide +kernel
theorem dX12_clause_30 : decode cX12_clause 30 = .ok (.aload_n 0, 1) := by decide +kernel
theorem dX12_clause_31 : decode cX12_clause 31 = .ok (.bipush 58, 2) := by decide +kernel
theorem dX12_clause_33 : decode cX12_clause 33 = .ok (.invokevirtual 160, 3) := by decide +kernel
theorem dX12_clause_36 : decode cX12_clause 36 = .ok (.ifCond .ne 4, 3) := by decide +kernel
theorem dX12_clause_39 : decode cX12_clause 39 = .ok (.return_, 1) := by decide +kernel
theorem dX12_clause_40 : decode cX12_clause 40 = .ok (.iconst 1, 1) := by decide +kernel
theorem dX12_clause_41 : decode cX12_clause 41 = .ok (.istore_n 2, 1) := by decide +kernel
theorem dX12_clause_42 : decode cX12_clause 42 = .ok (.iconst 0, 1) := by decide +kernel
theorem dX12_clause_43 : decode cX12_clause 43 = .ok (.istore_n 3, 1) := by decide +kernel
theorem dX12_clause_44 : decode cX12_clause 44 = .ok (.aload_n 0, 1) := by decide +kernel
theorem dX12_clause_45 : decode cX12_clause 45 = .ok (.invokevirtual 134, 3) := by decide +kernel
theorem dX12_clause_48 : decode cX12_clause 48 = .ok (.istore 4, 2) := by decide +kernel
theorem dX12_clause_50 : decode cX12_clause 50 = .ok (.iload 4, 2) := by decide +kernel
theorem dX12_clause_52 : decode cX12_clause 52 = .ok (.bipush 33, 2) := by decide +kernel
theorem dX12_clause_54 : decode cX12_clause 54 = .ok (.if_icmp .eq 10, 3) := by decide +kernel
theorem dX12_clause_57 : decode cX12_clause 57 = .ok (.iload 4, 2) := by decide +kernel
theorem dX12_clause_59 : decode cX12_clause 59 = .ok (.bipush 40, 2) := by decide +kernel
theorem dX12_clause_61 : decode cX12_clause 61 = .ok (.if_icmp .ne 28, 3) := by decide +kernel
theorem dX12_clause_64 : decode cX12_clause 64 = .ok (.aload_n 0, 1) := by decide +kernel
theorem dX12_clause_65 : decode cX12_clause 65 = .ok (.iconst 0, 1) := by decide +kernel
theorem dX12_clause_66 : decode cX12_clause 66 = .ok (.iconst 0, 1) := by decide +kernel
theorem dX12_clause_67 : decode cX12_clause 67 = .ok (.invokevirtual 183, 3) := by decide +kernel
theorem dX12_clause_70 : decode cX12_clause 70 = .ok (.istore_n 2, 1) := by decide +kernel
theorem dX12_clause_71 : decode cX12_clause 71 = .ok (.aload_n 0, 1) := by decide +kernel
theorem dX12_clause_72 : decode cX12_clause 72 = .ok (.bipush 63, 2) := by decide +kernel
theorem dX12_clause_74 : decode cX12_clause 74 = .ok (.invokevirtual 160, 3) := by decide +kernel
theorem dX12_clause_77 : decode cX12_clause 77 = .ok (.ifCond .ne 4, 3) := by decide +kernel
theorem dX12_clause_80 : decode cX12_clause 80 = .ok (.return_, 1) := by decide +kernel
theorem dX12_clause_81 : decode cX12_clause 81 = .ok (.aload_n 0, 1) := by decide +kernel
theorem dX12_clause_82 : decode cX12_clause 82 = .ok (.invokevirtual 157, 3) := by decide +kernel
theorem dX12_clause_85 : decode cX12_clause 85 = .ok (.istore_n 3, 1) := by decide +kernel
theorem dX12_clause_86 : decode cX12_clause 86 = .ok (.goto 48, 3) := by decide +kernel
theorem dX12_clause_89 : decode cX12_clause 89 = .ok (.aload_n 0, 1) := by decide +kernel
theorem dX12_clause_90 : decode cX12_clause 90 = .ok (.invokevirtual 157, 3) := by decide +kernel
theorem dX12_clause_93 : decode cX12_clause 93 = .ok (.istore_n 3, 1) := by decide +kernel
theorem dX12_clause_94 : decode cX12_clause 94 = .ok (.aload_n 0, 1) := by decide +kernel
theorem dX12_clause_95 : decode cX12_clause 95 = .ok (.getfield 124, 3) := by decide +kernel
theorem dX12_clause_98 : decode cX12_clause 98 = .ok (.iconst (-1), 1) := by decide +kernel
theorem dX12_clause_99 : decode cX12_clause 99 = .ok (.if_icmp .ne 35, 3) := by decide +kernel
theorem dX12_clause_102 : decode cX12_clause 102 = .ok (.aload_n 0, 1) := by decide +kernel
theorem dX12_clause_103 : decode cX12_clause 103 = .ok (.invokevirtual 134, 3) := by decide +kernel
theorem dX12_clause_106 : decode cX12_clause 106 = .ok (.invokestatic 177, 3) := by decide +kernel
theorem dX12_clause_109 : decode cX12_clause 109 = .ok (.ifCond .eq 25, 3) := by decide +kernel
theorem dX12_clause_112 : decode cX12_clause 112 = .ok (.aload_n 0, 1) := by decide +kernel
theorem dX12_clause_113 : decode cX12_clause 113 = .ok (.iconst 1, 1) := by decide +kernel
theorem dX12_clause_114 : decode cX12_clause 114 = .ok (.iload_n 3, 1) := by decide +kernel
theorem dX12_clause_115 : decode cX12_clause 115 = .ok (.invokevirtual 183, 3) := by decide +kernel
theorem dX12_clause_118 : decode cX12_clause 118 = .ok (.istore_n 2, 1) := by decide +kernel
theorem dX12_clause_119 : decode cX12_clause 119 = .ok (.aload_n 0, 1) := by decide +kernel
theorem dX12_clause_120 : decode cX12_clause 120 = .ok (.bipush 63, 2) := by decide +kernel
theorem dX12_clause_122 : decode cX12_clause 122 = .ok (.invokevirtual 160, 3) := by decide +kernel
theorem dX12_clause_125 : decode cX12_clause 125 = .ok (.ifCond .ne 4, 3) := by decide +kernel
theorem dX12_clause_128 : decode cX12_clause 128 = .ok (.return_, 1) := by decide +kernel
theorem dX12_clause_129 : decode cX12_clause 129 = .ok (.aload_n 0, 1) := by decide +kernel
theorem dX12_clause_130 : decode cX12_clause 130 = .ok (.invokevirtual 157, 3) := by decide +kernel
theorem dX12_clause_133 : decode cX12_clause 133 = .ok (.istore_n 3, 1) := by decide +kernel
theorem dX12_clause_134 : decode cX12_clause 134 = .ok (.aload_n 0, 1) := by decide +kernel
theorem dX12_clause_135 : decode cX12_clause 135 = .ok (.getfield 124, 3) := by decide +kernel
theorem dX12_clause_138 : decode cX12_clause 138 = .ok (.iconst (-1), 1) := by decide +kernel
theorem dX12_clause_139 : decode cX12_clause 139 = .ok (.if_icmp .ne 22, 3) := by decide +kernel
theorem dX12_clause_142 : decode cX12_clause 142 = .ok (.aload_n 0, 1) := by decide +kernel
theorem dX12_clause_143 : decode cX12_clause 143 = .ok (.getfield 193, 3) := by decide +kernel
theorem dX12_clause_146 : decode cX12_clause 146 = .ok (.ifCond .ne 15, 3) := by decide +kernel
theorem dX12_clause_149 : decode cX12_clause 149 = .ok (.iload_n 1, 1) := by decide +kernel
theorem dX12_clause_150 : decode cX12_clause 150 = .ok (.aload_n 0, 1) := by decide +kernel
theorem dX12_clause_151 : decode cX12_clause 151 = .ok (.getfield 197, 3) := by decide +kernel
theorem dX12_clause_154 : decode cX12_clause 154 = .ok (.if_icmp .ne 7, 3) := by decide +kernel
theorem dX12_clause_157 : decode cX12_clause 157 = .ok (.iload_n 2, 1) := by decide +kernel
theorem dX12_clause_158 : decode cX12_clause 158 = .ok (.ifCond .ne 4, 3) := by decide +kernel
theorem dX12_clause_161 : decode cX12_clause 161 = .ok (.return_, 1) := by decide +kernel
theorem dX12_clause_162 : decode cX12_clause 162 = .ok (.aload_n 0, 1) := by decide +kernel
theorem dX12_clause_163 : decode cX12_clause 163 = .ok (.iconst 1, 1) := by decide +kernel
theorem dX12_clause_164 : decode cX12_clause 164 = .ok (.putfield 193, 3) := by decide +kernel
theorem dX12_clause_167 : decode cX12_clause 167 = .ok (.aload_n 0, 1) := by decide +kernel
theorem dX12_clause_168 : decode cX12_clause 168 = .ok (.iload_n 3, 1) := by decide +kernel
theorem dX12_clause_169 : decode cX12_clause 169 = .ok (.putfield 200, 3) := by decide +kernel
theorem dX12_clause_172 : decode cX12_clause 172 = .ok (.return_, 1) := by decide +kernel
theorem dX12_starts_0 : decode cX12_starts 0 = .ok (.aload_n 0, 1) := by decide +kernel
theorem dX12_starts_1 : decode cX12_starts 1 = .ok (.aload_n 1, 1) := by decide +kernel
theorem dX12_starts_2 : decode cX12_starts 2 = .ok (.putfield 23, 3) := by decide +kernel
theorem dX12_starts_5 : decode cX12_starts 5 = .ok (.aload_n 0, 1) := by decide +kernel
theorem dX12_starts_6 : decode cX12_starts 6 = .ok (.iload_n 2, 1) := by decide +kernel
theorem dX12_starts_7 : decode cX12_starts 7 = .ok (.putfield 121, 3) := by decide +kernel
theorem dX12_starts_10 : decode cX12_starts 10 = .ok (.aload_n 0, 1) := by decide +kernel
theorem dX12_starts_11 : decode cX12_starts 11 = .ok (.iload_n 3, 1) := by decide +kernel
theorem dX12_starts_12 : decode cX12_starts 12 = .ok (.putfield 118, 3) := by decide +kernel
theorem dX12_starts_15 : decode cX12_starts 15 = .ok (.aload_n 0, 1) := by decide +kernel
theorem dX12_starts_16 : decode cX12_starts 16 = .ok (.iconst 0, 1) := by decide +kernel
theorem dX12_starts_17 : decode cX12_starts 17 = .ok (.putfield 115, 3) := by decide +kernel
theorem dX12_starts_20 : decode cX12_starts 20 = .ok (.aload_n 0, 1) := by decide +kernel
theorem dX12_starts_21 : decode cX12_starts 21 = .ok (.iconst (-1), 1) := by decide +kernel
theorem dX12_starts_22 : decode cX12_starts 22 = .ok (.putfield 124, 3) := by decide +kernel
theorem dX12_starts_25 : decode cX12_starts 25 = .ok (.return_, 1) := by decide +kernel
theorem dX12_goThrough_0 : decode cX12_goThrough 0 = .ok (.aload_n 0, 1) := by decide +kernel
theorem dX12_goThrough_1 : decode cX12_goThrough 1 = .ok (.aload_n 1, 1) := by decide +kernel
theorem dX12_goThrough_2 : decode cX12_goThrough 2 = .ok (.iload_n 2, 1) := by decide +kernel
theorem dX12_goThrough_3 : decode cX12_goThrough 3 = .ok (.iload_n 3, 1) := by decide +kernel
theorem dX12_goThrough_4 : decode cX12_goThrough 4 = .ok (.invokevirtual 203, 3) := by decide +kernel
theorem dX12_goThrough_7 : decode cX12_goThrough 7 = .ok (.aload_n 0, 1) := by decide +kernel
theorem dX12_goThrough_8 : decode cX12_goThrough 8 = .ok (.bipush 121, 2) := by decide +kernel
theorem dX12_goThrough_10 : decode cX12_goThrough 10 = .ok (.putfield 197, 3) := by decide +kernel
theorem dX12_goThrough_13 : decode cX12_goThrough 13 = .ok (.aload_n 0, 1) := by decide +kernel
theorem dX12_goThrough_14 : decode cX12_goThrough 14 = .ok (.iconst 0, 1) := by decide +kernel
theorem dX12_goThrough_15 : decode cX12_goThrough 15 = .ok (.putfield 127, 3) := by decide +kernel
theorem dX12_goThrough_18 : decode cX12_goThrough 18 = .ok (.aload_n 0, 1) := by decide +kernel
theorem dX12_goThrough_19 : decode cX12_goThrough 19 = .ok (.iconst 0, 1) := by decide +kernel
theorem dX12_goThrough_20 : decode cX12_goThrough 20 = .ok (.putfield 193, 3) := by decide +kernel
theorem dX12_goThrough_23 : decode cX12_goThrough 23 = .ok (.aload_n 0, 1) := by decide +kernel
theorem dX12_goThrough_24 : decode cX12_goThrough 24 = .ok (.iconst 0, 1) := by decide +kernel
theorem dX12_goThrough_25 : decode cX12_goThrough 25 = .ok (.putfield 200, 3) := by decide +kernel
theorem dX12_goThrough_28 : decode cX12_goThrough 28 = .ok (.aload_n 0, 1) := by decide +kernel
theorem dX12_goThrough_29 : decode cX12_goThrough 29 = .ok (.invokevirtual 207, 3) := by decide +kernel
theorem dX12_goThrough_32 : decode cX12_goThrough 32 = .ok (.aload_n 0, 1) := by decide +kernel
theorem dX12_goThrough_33 : decode cX12_goThrough 33 = .ok (.getfield 124, 3) := by decide +kernel
theorem dX12_goThrough_36 : decode cX12_goThrough 36 = .ok (.iconst (-1), 1) := by decide +kernel
theorem dX12_goThrough_37 : decode cX12_goThrough 37 = .ok (.if_icmp .ne 29, 3) := by decide +kernel
theorem dX12_goThrough_40 : decode cX12_goThrough 40 = .ok (.aload_n 0, 1) := by decide +kernel
theorem dX12_goThrough_41 : decode cX12_goThrough 41 = .ok (.invokevirtual 134, 3) := by decide +kernel
theorem dX12_goThrough_44 : decode cX12_goThrough 44 = .ok (.bipush 59, 2) := by decide +kernel
theorem dX12_goThrough_46 : decode cX12_goThrough 46 = .ok (.if_icmp .ne 20, 3) := by decide +kernel
theorem dX12_goThrough_49 : decode cX12_goThrough 49 = .ok (.aload_n 0, 1) := by decide +kernel
theorem dX12_goThrough_50 : decode cX12_goThrough 50 = .ok (.dup, 1) := by decide +kernel
theorem dX12_goThrough_51 : decode cX12_goThrough 51 = .ok (.getfield 115, 3) := by decide +kernel
theorem dX12_goThrough_54 : decode cX12_goThrough 54 = .ok (.iconst 1, 1) := by decide +kernel
theorem dX12_goThrough_55 : decode cX12_goThrough 55 = .ok (.iadd, 1) := by decide +kernel
theorem dX12_goThrough_56 : decode cX12_goThrough 56 = .ok (.putfield 115, 3) := by decide +kernel
theorem dX12_goThrough_59 : decode cX12_goThrough 59 = .ok (.aload_n 0, 1) := by decide +kernel
theorem dX12_goThrough_60 : decode cX12_goThrough 60 = .ok (.invokevirtual 207, 3) := by decide +kernel
theorem dX12_goThrough_63 : decode cX12_goThrough 63 = .ok (.goto (-31), 3) := by decide +kernel
theorem dX12_goThrough_66 : decode cX12_goThrough 66 = .ok (.aload_n 0, 1) := by decide +kernel
theorem dX12_goThrough_67 : decode cX12_goThrough 67 = .ok (.getfield 124, 3) := by decide +kernel
theorem dX12_goThrough_70 : decode cX12_goThrough 70 = .ok (.iconst (-1), 1) := by decide +kernel
theorem dX12_goThrough_71 : decode cX12_goThrough 71 = .ok (.if_icmp .ne 16, 3) := by decide +kernel
theorem dX12_goThrough_74 : decode cX12_goThrough 74 = .ok (.aload_n 0, 1) := by decide +kernel
theorem dX12_goThrough_75 : decode cX12_goThrough 75 = .ok (.invokevirtual 134, 3) := by decide +kernel
theorem dX12_goThrough_78 : decode cX12_goThrough 78 = .ok (.iconst (-1), 1) := by decide +kernel
theorem dX12_goThrough_79 : decode cX12_goThrough 79 = .ok (.if_icmp .eq 8, 3) := by decide +kernel
theorem dX12_goThrough_82 : decode cX12_goThrough 82 = .ok (.aload_n 0, 1) := by decide +kernel
theorem dX12_goThrough_83 : decode cX12_goThrough 83 = .ok (.invokevirtual 130, 3) := by decide +kernel
theorem dX12_goThrough_86 : decode cX12_goThrough 86 = .ok (.pop, 1) := by decide +kernel
theorem dX12_goThrough_87 : decode cX12_goThrough 87 = .ok (.return_, 1) := by decide +kernel
theorem dX12_here_0 : decode cX12_here 0 = .ok (.aload_n 0, 1) := by decide +kernel
theorem dX12_here_1 : decode cX12_here 1 = .ok (.getfield 115, 3) := by decide +kernel
theorem dX12_here_4 : decode cX12_here 4 = .ok (.aload_n 0, 1) := by decide +kernel
theorem dX12_here_5 : decode cX12_here 5 = .ok (.getfield 118, 3) := by decide +kernel
theorem dX12_here_8 : decode cX12_here 8 = .ok (.if_icmp .ge 24, 3) := by decide +kernel
theorem dX12_here_11 : decode cX12_here 11 = .ok (.aload_n 0, 1) := by decide +kernel
theorem dX12_here_12 : decode cX12_here 12 = .ok (.getfield 23, 3) := by decide +kernel
theorem dX12_here_15 : decode cX12_here 15 = .ok (.aload_n 0, 1) := by decide +kernel
theorem dX12_here_16 : decode cX12_here 16 = .ok (.getfield 121, 3) := by decide +kernel
theorem dX12_here_19 : decode cX12_here 19 = .ok (.aload_n 0, 1) := by decide +kernel
theorem dX12_here_20 : decode cX12_here 20 = .ok (.getfield 115, 3) := by decide +kernel
theorem dX12_here_23 : decode cX12_here 23 = .ok (.iadd, 1) := by decide +kernel
theorem dX12_here_24 : decode cX12_here 24 = .ok (.baload, 1) := by decide +kernel
theorem dX12_here_25 : decode cX12_here 25 = .ok (.sipush 255, 3) := by decide +kernel
theorem dX12_here_28 : decode cX12_here 28 = .ok (.iand, 1) := by decide +kernel
theorem dX12_here_29 : decode cX12_here 29 = .ok (.goto 4, 3) := by decide +kernel
theorem dX12_here_32 : decode cX12_here 32 = .ok (.iconst (-1), 1) := by decide +kernel
theorem dX12_here_33 : decode cX12_here 33 = .ok (.ireturn, 1) := by decide +kernel
theorem dX12_spotOf_0 : decode cX12_spotOf 0 = .ok (.iconst 0, 1) := by decide +kernel
theorem dX12_spotOf_1 : decode cX12_spotOf 1 = .ok (.istore_n 2, 1) := by decide +kernel
theorem dX12_spotOf_2 : decode cX12_spotOf 2 = .ok (.iload_n 2, 1) := by decide +kernel
theorem dX12_spotOf_3 : decode cX12_spotOf 3 = .ok (.aload_n 0, 1) := by decide +kernel
theorem dX12_spotOf_4 : decode cX12_spotOf 4 = .ok (.invokevirtual 95, 3) := by decide +kernel
theorem dX12_spotOf_7 : decode cX12_spotOf 7 = .ok (.if_icmp .ge 20, 3) := by decide +kernel
theorem dX12_spotOf_10 : decode cX12_spotOf 10 = .ok (.aload_n 0, 1) := by decide +kernel
theorem dX12_spotOf_11 : decode cX12_spotOf 11 = .ok (.iload_n 2, 1) := by decide +kernel
theorem dX12_spotOf_12 : decode cX12_spotOf 12 = .ok (.invokevirtual 101, 3) := by decide +kernel
theorem dX12_spotOf_15 : decode cX12_spotOf 15 = .ok (.iload_n 1, 1) := by decide +kernel
theorem dX12_spotOf_16 : decode cX12_spotOf 16 = .ok (.if_icmp .ne 5, 3) := by decide +kernel
theorem dX12_spotOf_19 : decode cX12_spotOf 19 = .ok (.iload_n 2, 1) := by decide +kernel
theorem dX12_spotOf_20 : decode cX12_spotOf 20 = .ok (.ireturn, 1) := by decide +kernel
theorem dX12_spotOf_21 : decode cX12_spotOf 21 = .ok (.iinc 2 1, 3) := by decide +kernel
theorem dX12_spotOf_24 : decode cX12_spotOf 24 = .ok (.goto (-22), 3) := by decide +kernel
theorem dX12_spotOf_27 : decode cX12_spotOf 27 = .ok (.iconst (-1), 1) := by decide +kernel
theorem dX12_spotOf_28 : decode cX12_spotOf 28 = .ok (.ireturn, 1) := by decide +kernel
theorem dX12_number_0 : decode cX12_number 0 = .ok (.aload_n 0, 1) := by decide +kernel
theorem dX12_number_1 : decode cX12_number 1 = .ok (.invokevirtual 134, 3) := by decide +kernel
theorem dX12_number_4 : decode cX12_number 4 = .ok (.istore_n 3, 1) := by decide +kernel
theorem dX12_number_5 : decode cX12_number 5 = .ok (.aload_n 0, 1) := by decide +kernel
theorem dX12_number_6 : decode cX12_number 6 = .ok (.invokevirtual 164, 3) := by decide +kernel
theorem dX12_number_9 : decode cX12_number 9 = .ok (.ifCond .ne 10, 3) := by decide +kernel
theorem dX12_number_12 : decode cX12_number 12 = .ok (.aload_n 0, 1) := by decide +kernel
theorem dX12_number_13 : decode cX12_number 13 = .ok (.invokevirtual 130, 3) := by decide +kernel
theorem dX12_number_16 : decode cX12_number 16 = .ok (.pop, 1) := by decide +kernel
theorem dX12_number_17 : decode cX12_number 17 = .ok (.iconst 0, 1) := by decide +kernel
theorem dX12_number_18 : decode cX12_number 18 = .ok (.ireturn, 1) := by decide +kernel
theorem dX12_number_19 : decode cX12_number 19 = .ok (.iload_n 3, 1) := by decide +kernel
theorem dX12_number_20 : decode cX12_number 20 = .ok (.bipush 48, 2) := by decide +kernel
theorem dX12_number_22 : decode cX12_number 22 = .ok (.isub, 1) := by decide +kernel
theorem dX12_number_23 : decode cX12_number 23 = .ok (.istore 4, 2) := by decide +kernel
theorem dX12_number_25 : decode cX12_number 25 = .ok (.aload_n 0, 1) := by decide +kernel
theorem dX12_number_26 : decode cX12_number 26 = .ok (.dup, 1) := by decide +kernel
theorem dX12_number_27 : decode cX12_number 27 = .ok (.getfield 115, 3) := by decide +kernel
theorem dX12_number_30 : decode cX12_number 30 = .ok (.iconst 1, 1) := by decide +kernel
theorem dX12_number_31 : decode cX12_number 31 = .ok (.iadd, 1) := by decide +kernel
theorem dX12_number_32 : decode cX12_number 32 = .ok (.putfield 115, 3) := by decide +kernel
theorem dX12_number_35 : decode cX12_number 35 = .ok (.aload_n 0, 1) := by decide +kernel
theorem dX12_number_36 : decode cX12_number 36 = .ok (.invokevirtual 164, 3) := by decide +kernel
theorem dX12_number_39 : decode cX12_number 39 = .ok (.ifCond .eq 28, 3) := by decide +kernel
theorem dX12_number_42 : decode cX12_number 42 = .ok (.bipush 10, 2) := by decide +kernel
theorem dX12_number_44 : decode cX12_number 44 = .ok (.iload 4, 2) := by decide +kernel
theorem dX12_number_46 : decode cX12_number 46 = .ok (.imul, 1) := by decide +kernel
theorem dX12_number_47 : decode cX12_number 47 = .ok (.aload_n 0, 1) := by decide +kernel
theorem dX12_number_48 : decode cX12_number 48 = .ok (.invokevirtual 210, 3) := by decide +kernel
theorem dX12_number_51 : decode cX12_number 51 = .ok (.iadd, 1) := by decide +kernel
theorem dX12_number_52 : decode cX12_number 52 = .ok (.bipush 48, 2) := by decide +kernel
theorem dX12_number_54 : decode cX12_number 54 = .ok (.isub, 1) := by decide +kernel
theorem dX12_number_55 : decode cX12_number 55 = .ok (.istore 4, 2) := by decide +kernel
theorem dX12_number_57 : decode cX12_number 57 = .ok (.aload_n 0, 1) := by decide +kernel
theorem dX12_number_58 : decode cX12_number 58 = .ok (.dup, 1) := by decide +kernel
theorem dX12_number_59 : decode cX12_number 59 = .ok (.getfield 115, 3) := by decide +kernel
theorem dX12_number_62 : decode cX12_number 62 = .ok (.iconst 1, 1) := by decide +kernel
theorem dX12_number_63 : decode cX12_number 63 = .ok (.iadd, 1) := by decide +kernel
theorem dX12_number_64 : decode cX12_number 64 = .ok (.putfield 115, 3) := by decide +kernel
theorem dX12_number_67 : decode cX12_number 67 = .ok (.aload_n 0, 1) := by decide +kernel
theorem dX12_number_68 : decode cX12_number 68 = .ok (.invokevirtual 164, 3) := by decide +kernel
theorem dX12_number_71 : decode cX12_number 71 = .ok (.ifCond .eq 10, 3) := by decide +kernel
theorem dX12_number_74 : decode cX12_number 74 = .ok (.aload_n 0, 1) := by decide +kernel
theorem dX12_number_75 : decode cX12_number 75 = .ok (.invokevirtual 130, 3) := by decide +kernel
theorem dX12_number_78 : decode cX12_number 78 = .ok (.pop, 1) := by decide +kernel
theorem dX12_number_79 : decode cX12_number 79 = .ok (.iconst 0, 1) := by decide +kernel
theorem dX12_number_80 : decode cX12_number 80 = .ok (.ireturn, 1) := by decide +kernel
theorem dX12_number_81 : decode cX12_number 81 = .ok (.iload 4, 2) := by decide +kernel
theorem dX12_number_83 : decode cX12_number 83 = .ok (.i2l, 1) := by decide +kernel
theorem dX12_number_84 : decode cX12_number 84 = .ok (.iload_n 1, 1) := by decide +kernel
theorem dX12_number_85 : decode cX12_number 85 = .ok (.i2l, 1) := by decide +kernel
theorem dX12_number_86 : decode cX12_number 86 = .ok (.iload_n 2, 1) := by decide +kernel
theorem dX12_number_87 : decode cX12_number 87 = .ok (.i2l, 1) := by decide +kernel
theorem dX12_number_88 : decode cX12_number 88 = .ok (.invokestatic 213, 3) := by decide +kernel
theorem dX12_number_91 : decode cX12_number 91 = .ok (.ifCond .ne 18, 3) := by decide +kernel
theorem dX12_number_94 : decode cX12_number 94 = .ok (.aload_n 0, 1) := by decide +kernel
theorem dX12_number_95 : decode cX12_number 95 = .ok (.dup, 1) := by decide +kernel
theorem dX12_number_96 : decode cX12_number 96 = .ok (.getfield 115, 3) := by decide +kernel
theorem dX12_number_99 : decode cX12_number 99 = .ok (.iconst 1, 1) := by decide +kernel
theorem dX12_number_100 : decode cX12_number 100 = .ok (.isub, 1) := by decide +kernel
theorem dX12_number_101 : decode cX12_number 101 = .ok (.putfield 115, 3) := by decide +kernel
theorem dX12_number_104 : decode cX12_number 104 = .ok (.aload_n 0, 1) := by decide +kernel
theorem dX12_number_105 : decode cX12_number 105 = .ok (.invokevirtual 130, 3) := by decide +kernel
theorem dX12_number_108 : decode cX12_number 108 = .ok (.pop, 1) := by decide +kernel
theorem dX12_number_109 : decode cX12_number 109 = .ok (.iload 4, 2) := by decide +kernel
theorem dX12_number_111 : decode cX12_number 111 = .ok (.ireturn, 1) := by decide +kernel
theorem dX12_mostOf_0 : decode cX12_mostOf 0 = .ok (.iload_n 0, 1) := by decide +kernel
theorem dX12_mostOf_1 : decode cX12_mostOf 1 = .ok (.bipush 115, 2) := by decide +kernel
theorem dX12_mostOf_3 : decode cX12_mostOf 3 = .ok (.if_icmp .ne 24, 3) := by decide +kernel
theorem dX12_mostOf_6 : decode cX12_mostOf 6 = .ok (.iload_n 1, 1) := by decide +kernel
theorem dX12_mostOf_7 : decode cX12_mostOf 7 = .ok (.ifCond .ne 7, 3) := by decide +kernel
theorem dX12_mostOf_10 : decode cX12_mostOf 10 = .ok (.iconst 3, 1) := by decide +kernel
theorem dX12_mostOf_11 : decode cX12_mostOf 11 = .ok (.goto 15, 3) := by decide +kernel
theorem dX12_mostOf_14 : decode cX12_mostOf 14 = .ok (.iload_n 1, 1) := by decide +kernel
theorem dX12_mostOf_15 : decode cX12_mostOf 15 = .ok (.iconst 1, 1) := by decide +kernel
theorem dX12_mostOf_16 : decode cX12_mostOf 16 = .ok (.if_icmp .ne 8, 3) := by decide +kernel
theorem dX12_mostOf_19 : decode cX12_mostOf 19 = .ok (.bipush 9, 2) := by decide +kernel
theorem dX12_mostOf_21 : decode cX12_mostOf 21 = .ok (.goto 5, 3) := by decide +kernel
theorem dX12_mostOf_24 : decode cX12_mostOf 24 = .ok (.bipush 99, 2) := by decide +kernel
theorem dX12_mostOf_26 : decode cX12_mostOf 26 = .ok (.ireturn, 1) := by decide +kernel
theorem dX12_mostOf_27 : decode cX12_mostOf 27 = .ok (.iload_n 0, 1) := by decide +kernel
theorem dX12_mostOf_28 : decode cX12_mostOf 28 = .ok (.bipush 100, 2) := by decide +kernel
theorem dX12_mostOf_30 : decode cX12_mostOf 30 = .ok (.if_icmp .ne 24, 3) := by decide +kernel
theorem dX12_mostOf_33 : decode cX12_mostOf 33 = .ok (.iload_n 1, 1) := by decide +kernel
theorem dX12_mostOf_34 : decode cX12_mostOf 34 = .ok (.ifCond .ne 8, 3) := by decide +kernel
theorem dX12_mostOf_37 : decode cX12_mostOf 37 = .ok (.bipush 20, 2) := by decide +kernel
theorem dX12_mostOf_39 : decode cX12_mostOf 39 = .ok (.goto 14, 3) := by decide +kernel
theorem dX12_mostOf_42 : decode cX12_mostOf 42 = .ok (.iload_n 1, 1) := by decide +kernel
theorem dX12_mostOf_43 : decode cX12_mostOf 43 = .ok (.iconst 1, 1) := by decide +kernel
theorem dX12_mostOf_44 : decode cX12_mostOf 44 = .ok (.if_icmp .ne 8, 3) := by decide +kernel
theorem dX12_mostOf_47 : decode cX12_mostOf 47 = .ok (.bipush 9, 2) := by decide +kernel
theorem dX12_mostOf_49 : decode cX12_mostOf 49 = .ok (.goto 4, 3) := by decide +kernel
theorem dX12_mostOf_52 : decode cX12_mostOf 52 = .ok (.iconst 3, 1) := by decide +kernel
theorem dX12_mostOf_53 : decode cX12_mostOf 53 = .ok (.ireturn, 1) := by decide +kernel
theorem dX12_mostOf_54 : decode cX12_mostOf 54 = .ok (.iload_n 1, 1) := by decide +kernel
theorem dX12_mostOf_55 : decode cX12_mostOf 55 = .ok (.iconst 2, 1) := by decide +kernel
theorem dX12_mostOf_56 : decode cX12_mostOf 56 = .ok (.if_icmp .ge 8, 3) := by decide +kernel
theorem dX12_mostOf_59 : decode cX12_mostOf 59 = .ok (.bipush 20, 2) := by decide +kernel
theorem dX12_mostOf_61 : decode cX12_mostOf 61 = .ok (.goto 14, 3) := by decide +kernel
theorem dX12_mostOf_64 : decode cX12_mostOf 64 = .ok (.iload_n 1, 1) := by decide +kernel
theorem dX12_mostOf_65 : decode cX12_mostOf 65 = .ok (.iconst 2, 1) := by decide +kernel
theorem dX12_mostOf_66 : decode cX12_mostOf 66 = .ok (.if_icmp .ne 7, 3) := by decide +kernel
theorem dX12_mostOf_69 : decode cX12_mostOf 69 = .ok (.iconst 3, 1) := by decide +kernel
theorem dX12_mostOf_70 : decode cX12_mostOf 70 = .ok (.goto 5, 3) := by decide +kernel
theorem dX12_mostOf_73 : decode cX12_mostOf 73 = .ok (.bipush 9, 2) := by decide +kernel
theorem dX12_mostOf_75 : decode cX12_mostOf 75 = .ok (.ireturn, 1) := by decide +kernel
theorem dX12_usual_0 : decode cX12_usual 0 = .ok (.iload_n 0, 1) := by decide +kernel
theorem dX12_usual_1 : decode cX12_usual 1 = .ok (.bipush 115, 2) := by decide +kernel
theorem dX12_usual_3 : decode cX12_usual 3 = .ok (.if_icmp .ne 23, 3) := by decide +kernel
theorem dX12_usual_6 : decode cX12_usual 6 = .ok (.iload_n 1, 1) := by decide +kernel
theorem dX12_usual_7 : decode cX12_usual 7 = .ok (.ifCond .ne 7, 3) := by decide +kernel
theorem dX12_usual_10 : decode cX12_usual 10 = .ok (.iconst 1, 1) := by decide +kernel
theorem dX12_usual_11 : decode cX12_usual 11 = .ok (.goto 14, 3) := by decide +kernel
theorem dX12_usual_14 : decode cX12_usual 14 = .ok (.iload_n 1, 1) := by decide +kernel
theorem dX12_usual_15 : decode cX12_usual 15 = .ok (.iconst 1, 1) := by decide +kernel
theorem dX12_usual_16 : decode cX12_usual 16 = .ok (.if_icmp .ne 7, 3) := by decide +kernel
theorem dX12_usual_19 : decode cX12_usual 19 = .ok (.iconst 3, 1) := by decide +kernel
theorem dX12_usual_20 : decode cX12_usual 20 = .ok (.goto 5, 3) := by decide +kernel
theorem dX12_usual_23 : decode cX12_usual 23 = .ok (.bipush 20, 2) := by decide +kernel
theorem dX12_usual_25 : decode cX12_usual 25 = .ok (.ireturn, 1) := by decide +kernel
theorem dX12_usual_26 : decode cX12_usual 26 = .ok (.iload_n 0, 1) := by decide +kernel
theorem dX12_usual_27 : decode cX12_usual 27 = .ok (.bipush 100, 2) := by decide +kernel
theorem dX12_usual_29 : decode cX12_usual 29 = .ok (.if_icmp .ne 23, 3) := by decide +kernel
theorem dX12_usual_32 : decode cX12_usual 32 = .ok (.iload_n 1, 1) := by decide +kernel
theorem dX12_usual_33 : decode cX12_usual 33 = .ok (.ifCond .ne 8, 3) := by decide +kernel
theorem dX12_usual_36 : decode cX12_usual 36 = .ok (.bipush 12, 2) := by decide +kernel
theorem dX12_usual_38 : decode cX12_usual 38 = .ok (.goto 13, 3) := by decide +kernel
theorem dX12_usual_41 : decode cX12_usual 41 = .ok (.iload_n 1, 1) := by decide +kernel
theorem dX12_usual_42 : decode cX12_usual 42 = .ok (.iconst 1, 1) := by decide +kernel
theorem dX12_usual_43 : decode cX12_usual 43 = .ok (.if_icmp .ne 7, 3) := by decide +kernel
theorem dX12_usual_46 : decode cX12_usual 46 = .ok (.iconst 2, 1) := by decide +kernel
theorem dX12_usual_47 : decode cX12_usual 47 = .ok (.goto 4, 3) := by decide +kernel
theorem dX12_usual_50 : decode cX12_usual 50 = .ok (.iconst 0, 1) := by decide +kernel
theorem dX12_usual_51 : decode cX12_usual 51 = .ok (.ireturn, 1) := by decide +kernel
theorem dX12_usual_52 : decode cX12_usual 52 = .ok (.iload_n 1, 1) := by decide +kernel
theorem dX12_usual_53 : decode cX12_usual 53 = .ok (.iconst 1, 1) := by decide +kernel
theorem dX12_usual_54 : decode cX12_usual 54 = .ok (.if_icmp .ne 8, 3) := by decide +kernel
theorem dX12_usual_57 : decode cX12_usual 57 = .ok (.bipush 7, 2) := by decide +kernel
theorem dX12_usual_59 : decode cX12_usual 59 = .ok (.goto 13, 3) := by decide +kernel
theorem dX12_usual_62 : decode cX12_usual 62 = .ok (.iload_n 1, 1) := by decide +kernel
theorem dX12_usual_63 : decode cX12_usual 63 = .ok (.iconst 3, 1) := by decide +kernel
theorem dX12_usual_64 : decode cX12_usual 64 = .ok (.if_icmp .ne 7, 3) := by decide +kernel
theorem dX12_usual_67 : decode cX12_usual 67 = .ok (.iconst 3, 1) := by decide +kernel
theorem dX12_usual_68 : decode cX12_usual 68 = .ok (.goto 4, 3) := by decide +kernel
theorem dX12_usual_71 : decode cX12_usual 71 = .ok (.iconst 0, 1) := by decide +kernel
theorem dX12_usual_72 : decode cX12_usual 72 = .ok (.ireturn, 1) := by decide +kernel
theorem dX12_readItems_0 : decode cX12_readItems 0 = .ok (.iconst 0, 1) := by decide +kernel
theorem dX12_readItems_1 : decode cX12_readItems 1 = .ok (.istore 5, 2) := by decide +kernel
theorem dX12_readItems_3 : decode cX12_readItems 3 = .ok (.iload 5, 2) := by decide +kernel
theorem dX12_readItems_5 : decode cX12_readItems 5 = .ok (.aload 4, 2) := by decide +kernel
theorem dX12_readItems_7 : decode cX12_readItems 7 = .ok (.invokevirtual 95, 3) := by decide +kernel
theorem dX12_readItems_10 : decode cX12_readItems 10 = .ok (.if_icmp .ge 21, 3) := by decide +kernel
theorem dX12_readItems_13 : decode cX12_readItems 13 = .ok (.aload_n 2, 1) := by decide +kernel
theorem dX12_readItems_14 : decode cX12_readItems 14 = .ok (.iload_n 3, 1) := by decide +kernel
theorem dX12_readItems_15 : decode cX12_readItems 15 = .ok (.iload 5, 2) := by decide +kernel
theorem dX12_readItems_17 : decode cX12_readItems 17 = .ok (.iadd, 1) := by decide +kernel
theorem dX12_readItems_18 : decode cX12_readItems 18 = .ok (.iload_n 1, 1) := by decide +kernel
theorem dX12_readItems_19 : decode cX12_readItems 19 = .ok (.iload 5, 2) := by decide +kernel
theorem dX12_readItems_21 : decode cX12_readItems 21 = .ok (.invokestatic 217, 3) := by decide +kernel
theorem dX12_readItems_24 : decode cX12_readItems 24 = .ok (.iastore, 1) := by decide +kernel
theorem dX12_readItems_25 : decode cX12_readItems 25 = .ok (.iinc 5 1, 3) := by decide +kernel
theorem dX12_readItems_28 : decode cX12_readItems 28 = .ok (.goto (-25), 3) := by decide +kernel
theorem dX12_readItems_31 : decode cX12_readItems 31 = .ok (.iconst 0, 1) := by decide +kernel
theorem dX12_readItems_32 : decode cX12_readItems 32 = .ok (.istore 5, 2) := by decide +kernel
theorem dX12_readItems_34 : decode cX12_readItems 34 = .ok (.aload 4, 2) := by decide +kernel
theorem dX12_readItems_36 : decode cX12_readItems 36 = .ok (.aload_n 0, 1) := by decide +kernel
theorem dX12_readItems_37 : decode cX12_readItems 37 = .ok (.invokevirtual 134, 3) := by decide +kernel
theorem dX12_readItems_40 : decode cX12_readItems 40 = .ok (.invokestatic 221, 3) := by decide +kernel
theorem dX12_readItems_43 : decode cX12_readItems 43 = .ok (.istore 6, 2) := by decide +kernel
theorem dX12_readItems_45 : decode cX12_readItems 45 = .ok (.iload 6, 2) := by decide +kernel
theorem dX12_readItems_47 : decode cX12_readItems 47 = .ok (.iconst (-1), 1) := by decide +kernel
theorem dX12_readItems_48 : decode cX12_readItems 48 = .ok (.if_icmp .eq 101, 3) := by decide +kernel
theorem dX12_readItems_51 : decode cX12_readItems 51 = .ok (.aload_n 0, 1) := by decide +kernel
theorem dX12_readItems_52 : decode cX12_readItems 52 = .ok (.getfield 124, 3) := by decide +kernel
theorem dX12_readItems_55 : decode cX12_readItems 55 = .ok (.iconst (-1), 1) := by decide +kernel
theorem dX12_readItems_56 : decode cX12_readItems 56 = .ok (.if_icmp .ne 93, 3) := by decide +kernel
theorem dX12_readItems_59 : decode cX12_readItems 59 = .ok (.iload 5, 2) := by decide +kernel
theorem dX12_readItems_61 : decode cX12_readItems 61 = .ok (.iload 6, 2) := by decide +kernel
theorem dX12_readItems_63 : decode cX12_readItems 63 = .ok (.invokestatic 225, 3) := by decide +kernel
theorem dX12_readItems_66 : decode cX12_readItems 66 = .ok (.ifCond .eq 9, 3) := by decide +kernel
theorem dX12_readItems_69 : decode cX12_readItems 69 = .ok (.aload_n 0, 1) := by decide +kernel
theorem dX12_readItems_70 : decode cX12_readItems 70 = .ok (.invokevirtual 130, 3) := by decide +kernel
theorem dX12_readItems_73 : decode cX12_readItems 73 = .ok (.pop, 1) := by decide +kernel
theorem dX12_readItems_74 : decode cX12_readItems 74 = .ok (.return_, 1) := by decide +kernel
theorem dX12_readItems_75 : decode cX12_readItems 75 = .ok (.iload 5, 2) := by decide +kernel
theorem dX12_readItems_77 : decode cX12_readItems 77 = .ok (.iconst 1, 1) := by decide +kernel
theorem dX12_readItems_78 : decode cX12_readItems 78 = .ok (.iload 6, 2) := by decide +kernel
theorem dX12_readItems_80 : decode cX12_readItems 80 = .ok (.ishl, 1) := by decide +kernel
theorem dX12_readItems_81 : decode cX12_readItems 81 = .ok (.ior, 1) := by decide +kernel
theorem dX12_readItems_82 : decode cX12_readItems 82 = .ok (.istore 5, 2) := by decide +kernel
theorem dX12_readItems_84 : decode cX12_readItems 84 = .ok (.aload_n 0, 1) := by decide +kernel
theorem dX12_readItems_85 : decode cX12_readItems 85 = .ok (.dup, 1) := by decide +kernel
theorem dX12_readItems_86 : decode cX12_readItems 86 = .ok (.getfield 115, 3) := by decide +kernel
theorem dX12_readItems_89 : decode cX12_readItems 89 = .ok (.iconst 1, 1) := by decide +kernel
theorem dX12_readItems_90 : decode cX12_readItems 90 = .ok (.iadd, 1) := by decide +kernel
theorem dX12_readItems_91 : decode cX12_readItems 91 = .ok (.putfield 115, 3) := by decide +kernel
theorem dX12_readItems_94 : decode cX12_readItems 94 = .ok (.aload_n 2, 1) := by decide +kernel
theorem dX12_readItems_95 : decode cX12_readItems 95 = .ok (.iload_n 3, 1) := by decide +kernel
theorem dX12_readItems_96 : decode cX12_readItems 96 = .ok (.iload 6, 2) := by decide +kernel
theorem dX12_readItems_98 : decode cX12_readItems 98 = .ok (.iadd, 1) := by decide +kernel
theorem dX12_readItems_99 : decode cX12_readItems 99 = .ok (.aload_n 0, 1) := by decide +kernel
theorem dX12_readItems_100 : decode cX12_readItems 100 = .ok (.iload_n 1, 1) := by decide +kernel
theorem dX12_readItems_101 : decode cX12_readItems 101 = .ok (.bipush 103, 2) := by decide +kernel
theorem dX12_readItems_103 : decode cX12_readItems 103 = .ok (.if_icmp .ne 13, 3) := by decide +kernel
theorem dX12_readItems_106 : decode cX12_readItems 106 = .ok (.iload 6, 2) := by decide +kernel
theorem dX12_readItems_108 : decode cX12_readItems 108 = .ok (.iconst 1, 1) := by decide +kernel
theorem dX12_readItems_109 : decode cX12_readItems 109 = .ok (.if_icmp .ne 7, 3) := by decide +kernel
theorem dX12_readItems_112 : decode cX12_readItems 112 = .ok (.iconst 1, 1) := by decide +kernel
theorem dX12_readItems_113 : decode cX12_readItems 113 = .ok (.goto 4, 3) := by decide +kernel
theorem dX12_readItems_116 : decode cX12_readItems 116 = .ok (.iconst 0, 1) := by decide +kernel
theorem dX12_readItems_117 : decode cX12_readItems 117 = .ok (.iload_n 1, 1) := by decide +kernel
theorem dX12_readItems_118 : decode cX12_readItems 118 = .ok (.iload 6, 2) := by decide +kernel
theorem dX12_readItems_120 : decode cX12_readItems 120 = .ok (.invokestatic 229, 3) := by decide +kernel
theorem dX12_readItems_123 : decode cX12_readItems 123 = .ok (.invokevirtual 232, 3) := by decide +kernel
theorem dX12_readItems_126 : decode cX12_readItems 126 = .ok (.iastore, 1) := by decide +kernel
theorem dX12_readItems_127 : decode cX12_readItems 127 = .ok (.aload_n 0, 1) := by decide +kernel
theorem dX12_readItems_128 : decode cX12_readItems 128 = .ok (.getfield 124, 3) := by decide +kernel
theorem dX12_readItems_131 : decode cX12_readItems 131 = .ok (.iconst (-1), 1) := by decide +kernel
theorem dX12_readItems_132 : decode cX12_readItems 132 = .ok (.if_icmp .ne (-87), 3) := by decide +kernel
theorem dX12_readItems_135 : decode cX12_readItems 135 = .ok (.aload 4, 2) := by decide +kernel
theorem dX12_readItems_137 : decode cX12_readItems 137 = .ok (.aload_n 0, 1) := by decide +kernel
theorem dX12_readItems_138 : decode cX12_readItems 138 = .ok (.invokevirtual 134, 3) := by decide +kernel
theorem dX12_readItems_141 : decode cX12_readItems 141 = .ok (.invokestatic 221, 3) := by decide +kernel
theorem dX12_readItems_144 : decode cX12_readItems 144 = .ok (.istore 6, 2) := by decide +kernel
theorem dX12_readItems_146 : decode cX12_readItems 146 = .ok (.goto (-101), 3) := by decide +kernel
theorem dX12_readItems_149 : decode cX12_readItems 149 = .ok (.return_, 1) := by decide +kernel
theorem dX12_readClause_0 : decode cX12_readClause 0 = .ok (.aload_n 0, 1) := by decide +kernel
theorem dX12_readClause_1 : decode cX12_readClause 1 = .ok (.invokevirtual 134, 3) := by decide +kernel
theorem dX12_readClause_4 : decode cX12_readClause 4 = .ok (.istore_n 1, 1) := by decide +kernel
theorem dX12_readClause_5 : decode cX12_readClause 5 = .ok (.iload_n 1, 1) := by decide +kernel
theorem dX12_readClause_6 : decode cX12_readClause 6 = .ok (.bipush 115, 2) := by decide +kernel
theorem dX12_readClause_8 : decode cX12_readClause 8 = .ok (.if_icmp .ne 10, 3) := by decide +kernel
theorem dX12_readClause_11 : decode cX12_readClause 11 = .ok (.aload_n 0, 1) := by decide +kernel
theorem dX12_readClause_12 : decode cX12_readClause 12 = .ok (.getfield 235, 3) := by decide +kernel
theorem dX12_readClause_15 : decode cX12_readClause 15 = .ok (.ifCond .eq 32, 3) := by decide +kernel
theorem dX12_readClause_18 : decode cX12_readClause 18 = .ok (.iload_n 1, 1) := by decide +kernel
theorem dX12_readClause_19 : decode cX12_readClause 19 = .ok (.bipush 100, 2) := by decide +kernel
theorem dX12_readClause_21 : decode cX12_readClause 21 = .ok (.if_icmp .ne 11, 3) := by decide +kernel
theorem dX12_readClause_24 : decode cX12_readClause 24 = .ok (.aload_n 0, 1) := by decide +kernel
theorem dX12_readClause_25 : decode cX12_readClause 25 = .ok (.getfield 238, 3) := by decide +kernel
theorem dX12_readClause_28 : decode cX12_readClause 28 = .ok (.iconst 5, 1) := by decide +kernel
theorem dX12_readClause_29 : decode cX12_readClause 29 = .ok (.if_icmp .lt 18, 3) := by decide +kernel
theorem dX12_readClause_32 : decode cX12_readClause 32 = .ok (.iload_n 1, 1) := by decide +kernel
theorem dX12_readClause_33 : decode cX12_readClause 33 = .ok (.bipush 103, 2) := by decide +kernel
theorem dX12_readClause_35 : decode cX12_readClause 35 = .ok (.if_icmp .ne 16, 3) := by decide +kernel
theorem dX12_readClause_38 : decode cX12_readClause 38 = .ok (.aload_n 0, 1) := by decide +kernel
theorem dX12_readClause_39 : decode cX12_readClause 39 = .ok (.getfield 241, 3) := by decide +kernel
theorem dX12_readClause_42 : decode cX12_readClause 42 = .ok (.bipush 6, 2) := by decide +kernel
theorem dX12_readClause_44 : decode cX12_readClause 44 = .ok (.if_icmp .ge 7, 3) := by decide +kernel
theorem dX12_readClause_47 : decode cX12_readClause 47 = .ok (.iconst 1, 1) := by decide +kernel
theorem dX12_readClause_48 : decode cX12_readClause 48 = .ok (.goto 4, 3) := by decide +kernel
theorem dX12_readClause_51 : decode cX12_readClause 51 = .ok (.iconst 0, 1) := by decide +kernel
theorem dX12_readClause_52 : decode cX12_readClause 52 = .ok (.istore_n 2, 1) := by decide +kernel
theorem dX12_readClause_53 : decode cX12_readClause 53 = .ok (.iload_n 2, 1) := by decide +kernel
theorem dX12_readClause_54 : decode cX12_readClause 54 = .ok (.ifCond .ne 9, 3) := by decide +kernel
theorem dX12_readClause_57 : decode cX12_readClause 57 = .ok (.aload_n 0, 1) := by decide +kernel
theorem dX12_readClause_58 : decode cX12_readClause 58 = .ok (.invokevirtual 130, 3) := by decide +kernel
theorem dX12_readClause_61 : decode cX12_readClause 61 = .ok (.pop, 1) := by decide +kernel
theorem dX12_readClause_62 : decode cX12_readClause 62 = .ok (.return_, 1) := by decide +kernel
theorem dX12_readClause_63 : decode cX12_readClause 63 = .ok (.aload_n 0, 1) := by decide +kernel
theorem dX12_readClause_64 : decode cX12_readClause 64 = .ok (.dup, 1) := by decide +kernel
theorem dX12_readClause_65 : decode cX12_readClause 65 = .ok (.getfield 115, 3) := by decide +kernel
theorem dX12_readClause_68 : decode cX12_readClause 68 = .ok (.iconst 1, 1) := by decide +kernel
theorem dX12_readClause_69 : decode cX12_readClause 69 = .ok (.iadd, 1) := by decide +kernel
theorem dX12_readClause_70 : decode cX12_readClause 70 = .ok (.putfield 115, 3) := by decide +kernel
theorem dX12_readClause_73 : decode cX12_readClause 73 = .ok (.iload_n 1, 1) := by decide +kernel
theorem dX12_readClause_74 : decode cX12_readClause 74 = .ok (.bipush 115, 2) := by decide +kernel
theorem dX12_readClause_76 : decode cX12_readClause 76 = .ok (.if_icmp .ne 23, 3) := by decide +kernel
theorem dX12_readClause_79 : decode cX12_readClause 79 = .ok (.aload_n 0, 1) := by decide +kernel
theorem dX12_readClause_80 : decode cX12_readClause 80 = .ok (.iconst 1, 1) := by decide +kernel
theorem dX12_readClause_81 : decode cX12_readClause 81 = .ok (.putfield 235, 3) := by decide +kernel
theorem dX12_readClause_84 : decode cX12_readClause 84 = .ok (.aload_n 0, 1) := by decide +kernel
theorem dX12_readClause_85 : decode cX12_readClause 85 = .ok (.iload_n 1, 1) := by decide +kernel
theorem dX12_readClause_86 : decode cX12_readClause 86 = .ok (.aload_n 0, 1) := by decide +kernel
theorem dX12_readClause_87 : decode cX12_readClause 87 = .ok (.getfield 40, 3) := by decide +kernel
theorem dX12_readClause_90 : decode cX12_readClause 90 = .ok (.iconst 0, 1) := by decide +kernel
theorem dX12_readClause_91 : decode cX12_readClause 91 = .ok (.ldc 244, 2) := by decide +kernel
theorem dX12_readClause_93 : decode cX12_readClause 93 = .ok (.invokevirtual 246, 3) := by decide +kernel
theorem dX12_readClause_96 : decode cX12_readClause 96 = .ok (.goto 70, 3) := by decide +kernel
theorem dX12_readClause_99 : decode cX12_readClause 99 = .ok (.iload_n 1, 1) := by decide +kernel
theorem dX12_readClause_100 : decode cX12_readClause 100 = .ok (.bipush 100, 2) := by decide +kernel
theorem dX12_readClause_102 : decode cX12_readClause 102 = .ok (.if_icmp .ne 35, 3) := by decide +kernel
theorem dX12_readClause_105 : decode cX12_readClause 105 = .ok (.aload_n 0, 1) := by decide +kernel
theorem dX12_readClause_106 : decode cX12_readClause 106 = .ok (.dup, 1) := by decide +kernel
theorem dX12_readClause_107 : decode cX12_readClause 107 = .ok (.getfield 238, 3) := by decide +kernel
theorem dX12_readClause_110 : decode cX12_readClause 110 = .ok (.iconst 1, 1) := by decide +kernel
theorem dX12_readClause_111 : decode cX12_readClause 111 = .ok (.iadd, 1) := by decide +kernel
theorem dX12_readClause_112 : decode cX12_readClause 112 = .ok (.putfield 238, 3) := by decide +kernel
theorem dX12_readClause_115 : decode cX12_readClause 115 = .ok (.aload_n 0, 1) := by decide +kernel
theorem dX12_readClause_116 : decode cX12_readClause 116 = .ok (.iload_n 1, 1) := by decide +kernel
theorem dX12_readClause_117 : decode cX12_readClause 117 = .ok (.aload_n 0, 1) := by decide +kernel
theorem dX12_readClause_118 : decode cX12_readClause 118 = .ok (.getfield 46, 3) := by decide +kernel
theorem dX12_readClause_121 : decode cX12_readClause 121 = .ok (.iconst 3, 1) := by decide +kernel
theorem dX12_readClause_122 : decode cX12_readClause 122 = .ok (.aload_n 0, 1) := by decide +kernel
theorem dX12_readClause_123 : decode cX12_readClause 123 = .ok (.getfield 238, 3) := by decide +kernel
theorem dX12_readClause_126 : decode cX12_readClause 126 = .ok (.iconst 1, 1) := by decide +kernel
theorem dX12_readClause_127 : decode cX12_readClause 127 = .ok (.isub, 1) := by decide +kernel
theorem dX12_readClause_128 : decode cX12_readClause 128 = .ok (.imul, 1) := by decide +kernel
theorem dX12_readClause_129 : decode cX12_readClause 129 = .ok (.ldc 250, 2) := by decide +kernel
theorem dX12_readClause_131 : decode cX12_readClause 131 = .ok (.invokevirtual 246, 3) := by decide +kernel
theorem dX12_readClause_134 : decode cX12_readClause 134 = .ok (.goto 32, 3) := by decide +kernel
theorem dX12_readClause_137 : decode cX12_readClause 137 = .ok (.aload_n 0, 1) := by decide +kernel
theorem dX12_readClause_138 : decode cX12_readClause 138 = .ok (.dup, 1) := by decide +kernel
theorem dX12_readClause_139 : decode cX12_readClause 139 = .ok (.getfield 241, 3) := by decide +kernel
theorem dX12_readClause_142 : decode cX12_readClause 142 = .ok (.iconst 1, 1) := by decide +kernel
theorem dX12_readClause_143 : decode cX12_readClause 143 = .ok (.iadd, 1) := by decide +kernel
theorem dX12_readClause_144 : decode cX12_readClause 144 = .ok (.putfield 241, 3) := by decide +kernel
theorem dX12_readClause_147 : decode cX12_readClause 147 = .ok (.aload_n 0, 1) := by decide +kernel
theorem dX12_readClause_148 : decode cX12_readClause 148 = .ok (.iload_n 1, 1) := by decide +kernel
theorem dX12_readClause_149 : decode cX12_readClause 149 = .ok (.aload_n 0, 1) := by decide +kernel
theorem dX12_readClause_150 : decode cX12_readClause 150 = .ok (.getfield 52, 3) := by decide +kernel
theorem dX12_readClause_153 : decode cX12_readClause 153 = .ok (.iconst 4, 1) := by decide +kernel
theorem dX12_readClause_154 : decode cX12_readClause 154 = .ok (.aload_n 0, 1) := by decide +kernel
theorem dX12_readClause_155 : decode cX12_readClause 155 = .ok (.getfield 241, 3) := by decide +kernel
theorem dX12_readClause_158 : decode cX12_readClause 158 = .ok (.iconst 1, 1) := by decide +kernel
theorem dX12_readClause_159 : decode cX12_readClause 159 = .ok (.isub, 1) := by decide +kernel
theorem dX12_readClause_160 : decode cX12_readClause 160 = .ok (.imul, 1) := by decide +kernel
theorem dX12_readClause_161 : decode cX12_readClause 161 = .ok (.ldc 252, 2) := by decide +kernel
theorem dX12_readClause_163 : decode cX12_readClause 163 = .ok (.invokevirtual 246, 3) := by decide +kernel
theorem dX12_readClause_166 : decode cX12_readClause 166 = .ok (.return_, 1) := by decide +kernel
theorem dX12_readHouse_0 : decode cX12_readHouse 0 = .ok (.aload_n 0, 1) := by decide +kernel
theorem dX12_readHouse_1 : decode cX12_readHouse 1 = .ok (.aload_n 0, 1) := by decide +kernel
theorem dX12_readHouse_2 : decode cX12_readHouse 2 = .ok (.getfield 9, 3) := by decide +kernel
theorem dX12_readHouse_5 : decode cX12_readHouse 5 = .ok (.iconst 0, 1) := by decide +kernel
theorem dX12_readHouse_6 : decode cX12_readHouse 6 = .ok (.aload_n 0, 1) := by decide +kernel
theorem dX12_readHouse_7 : decode cX12_readHouse 7 = .ok (.getfield 105, 3) := by decide +kernel
theorem dX12_readHouse_10 : decode cX12_readHouse 10 = .ok (.invokevirtual 203, 3) := by decide +kernel
theorem dX12_readHouse_13 : decode cX12_readHouse 13 = .ok (.aload_n 0, 1) := by decide +kernel
theorem dX12_readHouse_14 : decode cX12_readHouse 14 = .ok (.iconst 0, 1) := by decide +kernel
theorem dX12_readHouse_15 : decode cX12_readHouse 15 = .ok (.putfield 238, 3) := by decide +kernel
theorem dX12_readHouse_18 : decode cX12_readHouse 18 = .ok (.aload_n 0, 1) := by decide +kernel
theorem dX12_readHouse_19 : decode cX12_readHouse 19 = .ok (.iconst 0, 1) := by decide +kernel
theorem dX12_readHouse_20 : decode cX12_readHouse 20 = .ok (.putfield 241, 3) := by decide +kernel
theorem dX12_readHouse_23 : decode cX12_readHouse 23 = .ok (.aload_n 0, 1) := by decide +kernel
theorem dX12_readHouse_24 : decode cX12_readHouse 24 = .ok (.iconst 0, 1) := by decide +kernel
theorem dX12_readHouse_25 : decode cX12_readHouse 25 = .ok (.putfield 235, 3) := by decide +kernel
theorem dX12_readHouse_28 : decode cX12_readHouse 28 = .ok (.iconst 0, 1) := by decide +kernel
theorem dX12_readHouse_29 : decode cX12_readHouse 29 = .ok (.istore_n 1, 1) := by decide +kernel
theorem dX12_readHouse_30 : decode cX12_readHouse 30 = .ok (.iload_n 1, 1) := by decide +kernel
theorem dX12_readHouse_31 : decode cX12_readHouse 31 = .ok (.iconst 3, 1) := by decide +kernel
theorem dX12_readHouse_32 : decode cX12_readHouse 32 = .ok (.if_icmp .ge 21, 3) := by decide +kernel
theorem dX12_readHouse_35 : decode cX12_readHouse 35 = .ok (.aload_n 0, 1) := by decide +kernel
theorem dX12_readHouse_36 : decode cX12_readHouse 36 = .ok (.getfield 40, 3) := by decide +kernel
theorem dX12_readHouse_39 : decode cX12_readHouse 39 = .ok (.iload_n 1, 1) := by decide +kernel
theorem dX12_readHouse_40 : decode cX12_readHouse 40 = .ok (.bipush 115, 2) := by decide +kernel
theorem dX12_readHouse_42 : decode cX12_readHouse 42 = .ok (.iload_n 1, 1) := by decide +kernel
theorem dX12_readHouse_43 : decode cX12_readHouse 43 = .ok (.invokestatic 217, 3) := by decide +kernel
theorem dX12_readHouse_46 : decode cX12_readHouse 46 = .ok (.iastore, 1) := by decide +kernel
theorem dX12_readHouse_47 : decode cX12_readHouse 47 = .ok (.iinc 1 1, 3) := by decide +kernel
theorem dX12_readHouse_50 : decode cX12_readHouse 50 = .ok (.goto (-20), 3) := by decide +kernel
theorem dX12_readHouse_53 : decode cX12_readHouse 53 = .ok (.iconst 1, 1) := by decide +kernel
theorem dX12_readHouse_54 : decode cX12_readHouse 54 = .ok (.istore_n 1, 1) := by decide +kernel
theorem dX12_readHouse_55 : decode cX12_readHouse 55 = .ok (.iload_n 1, 1) := by decide +kernel
theorem dX12_readHouse_56 : decode cX12_readHouse 56 = .ok (.ifCond .eq 55, 3) := by decide +kernel
theorem dX12_readHouse_59 : decode cX12_readHouse 59 = .ok (.aload_n 0, 1) := by decide +kernel
theorem dX12_readHouse_60 : decode cX12_readHouse 60 = .ok (.getfield 124, 3) := by decide +kernel
theorem dX12_readHouse_63 : decode cX12_readHouse 63 = .ok (.iconst (-1), 1) := by decide +kernel
theorem dX12_readHouse_64 : decode cX12_readHouse 64 = .ok (.if_icmp .ne 47, 3) := by decide +kernel
theorem dX12_readHouse_67 : decode cX12_readHouse 67 = .ok (.aload_n 0, 1) := by decide +kernel
theorem dX12_readHouse_68 : decode cX12_readHouse 68 = .ok (.invokevirtual 254, 3) := by decide +kernel
theorem dX12_readHouse_71 : decode cX12_readHouse 71 = .ok (.aload_n 0, 1) := by decide +kernel
theorem dX12_readHouse_72 : decode cX12_readHouse 72 = .ok (.getfield 124, 3) := by decide +kernel
theorem dX12_readHouse_75 : decode cX12_readHouse 75 = .ok (.iconst (-1), 1) := by decide +kernel
theorem dX12_readHouse_76 : decode cX12_readHouse 76 = .ok (.if_icmp .ne 16, 3) := by decide +kernel
theorem dX12_readHouse_79 : decode cX12_readHouse 79 = .ok (.aload_n 0, 1) := by decide +kernel
theorem dX12_readHouse_80 : decode cX12_readHouse 80 = .ok (.invokevirtual 134, 3) := by decide +kernel
theorem dX12_readHouse_83 : decode cX12_readHouse 83 = .ok (.bipush 59, 2) := by decide +kernel
theorem dX12_readHouse_85 : decode cX12_readHouse 85 = .ok (.if_icmp .ne 7, 3) := by decide +kernel
theorem dX12_readHouse_88 : decode cX12_readHouse 88 = .ok (.iconst 1, 1) := by decide +kernel
theorem dX12_readHouse_89 : decode cX12_readHouse 89 = .ok (.goto 4, 3) := by decide +kernel
theorem dX12_readHouse_92 : decode cX12_readHouse 92 = .ok (.iconst 0, 1) := by decide +kernel
theorem dX12_readHouse_93 : decode cX12_readHouse 93 = .ok (.istore_n 1, 1) := by decide +kernel
theorem dX12_readHouse_94 : decode cX12_readHouse 94 = .ok (.iload_n 1, 1) := by decide +kernel
theorem dX12_readHouse_95 : decode cX12_readHouse 95 = .ok (.ifCond .eq (-40), 3) := by decide +kernel
theorem dX12_readHouse_98 : decode cX12_readHouse 98 = .ok (.aload_n 0, 1) := by decide +kernel
theorem dX12_readHouse_99 : decode cX12_readHouse 99 = .ok (.dup, 1) := by decide +kernel
theorem dX12_readHouse_100 : decode cX12_readHouse 100 = .ok (.getfield 115, 3) := by decide +kernel
theorem dX12_readHouse_103 : decode cX12_readHouse 103 = .ok (.iconst 1, 1) := by decide +kernel
theorem dX12_readHouse_104 : decode cX12_readHouse 104 = .ok (.iadd, 1) := by decide +kernel
theorem dX12_readHouse_105 : decode cX12_readHouse 105 = .ok (.putfield 115, 3) := by decide +kernel
theorem dX12_readHouse_108 : decode cX12_readHouse 108 = .ok (.goto (-53), 3) := by decide +kernel
theorem dX12_readHouse_111 : decode cX12_readHouse 111 = .ok (.aload_n 0, 1) := by decide +kernel
theorem dX12_readHouse_112 : decode cX12_readHouse 112 = .ok (.getfield 124, 3) := by decide +kernel
theorem dX12_readHouse_115 : decode cX12_readHouse 115 = .ok (.iconst (-1), 1) := by decide +kernel
theorem dX12_readHouse_116 : decode cX12_readHouse 116 = .ok (.if_icmp .ne 30, 3) := by decide +kernel
theorem dX12_readHouse_119 : decode cX12_readHouse 119 = .ok (.aload_n 0, 1) := by decide +kernel
theorem dX12_readHouse_120 : decode cX12_readHouse 120 = .ok (.invokevirtual 134, 3) := by decide +kernel
theorem dX12_readHouse_123 : decode cX12_readHouse 123 = .ok (.iconst (-1), 1) := by decide +kernel
theorem dX12_readHouse_124 : decode cX12_readHouse 124 = .ok (.if_icmp .ne 17, 3) := by decide +kernel
theorem dX12_readHouse_127 : decode cX12_readHouse 127 = .ok (.aload_n 0, 1) := by decide +kernel
theorem dX12_readHouse_128 : decode cX12_readHouse 128 = .ok (.getfield 238, 3) := by decide +kernel
theorem dX12_readHouse_131 : decode cX12_readHouse 131 = .ok (.ifCond .eq 10, 3) := by decide +kernel
theorem dX12_readHouse_134 : decode cX12_readHouse 134 = .ok (.aload_n 0, 1) := by decide +kernel
theorem dX12_readHouse_135 : decode cX12_readHouse 135 = .ok (.getfield 241, 3) := by decide +kernel
theorem dX12_readHouse_138 : decode cX12_readHouse 138 = .ok (.ifCond .ne 8, 3) := by decide +kernel
theorem dX12_readHouse_141 : decode cX12_readHouse 141 = .ok (.aload_n 0, 1) := by decide +kernel
theorem dX12_readHouse_142 : decode cX12_readHouse 142 = .ok (.invokevirtual 130, 3) := by decide +kernel
theorem dX12_readHouse_145 : decode cX12_readHouse 145 = .ok (.pop, 1) := by decide +kernel
theorem dX12_readHouse_146 : decode cX12_readHouse 146 = .ok (.return_, 1) := by decide +kernel
theorem dX12_digit_0 : decode cX12_digit 0 = .ok (.aload_n 0, 1) := by decide +kernel
theorem dX12_digit_1 : decode cX12_digit 1 = .ok (.invokevirtual 134, 3) := by decide +kernel
theorem dX12_digit_4 : decode cX12_digit 4 = .ok (.istore_n 1, 1) := by decide +kernel
theorem dX12_digit_5 : decode cX12_digit 5 = .ok (.aload_n 0, 1) := by decide +kernel
theorem dX12_digit_6 : decode cX12_digit 6 = .ok (.invokevirtual 164, 3) := by decide +kernel
theorem dX12_digit_9 : decode cX12_digit 9 = .ok (.ifCond .ne 10, 3) := by decide +kernel
theorem dX12_digit_12 : decode cX12_digit 12 = .ok (.aload_n 0, 1) := by decide +kernel
theorem dX12_digit_13 : decode cX12_digit 13 = .ok (.invokevirtual 130, 3) := by decide +kernel
theorem dX12_digit_16 : decode cX12_digit 16 = .ok (.pop, 1) := by decide +kernel
theorem dX12_digit_17 : decode cX12_digit 17 = .ok (.iconst 0, 1) := by decide +kernel
theorem dX12_digit_18 : decode cX12_digit 18 = .ok (.ireturn, 1) := by decide +kernel
theorem dX12_digit_19 : decode cX12_digit 19 = .ok (.aload_n 0, 1) := by decide +kernel
theorem dX12_digit_20 : decode cX12_digit 20 = .ok (.dup, 1) := by decide +kernel
theorem dX12_digit_21 : decode cX12_digit 21 = .ok (.getfield 115, 3) := by decide +kernel
theorem dX12_digit_24 : decode cX12_digit 24 = .ok (.iconst 1, 1) := by decide +kernel
theorem dX12_digit_25 : decode cX12_digit 25 = .ok (.iadd, 1) := by decide +kernel
theorem dX12_digit_26 : decode cX12_digit 26 = .ok (.putfield 115, 3) := by decide +kernel
theorem dX12_digit_29 : decode cX12_digit 29 = .ok (.iload_n 1, 1) := by decide +kernel
theorem dX12_digit_30 : decode cX12_digit 30 = .ok (.bipush 48, 2) := by decide +kernel
theorem dX12_digit_32 : decode cX12_digit 32 = .ok (.isub, 1) := by decide +kernel
theorem dX12_digit_33 : decode cX12_digit 33 = .ok (.ireturn, 1) := by decide +kernel
theorem dX12_readStep_0 : decode cX12_readStep 0 = .ok (.ldc_w 257, 3) := by decide +kernel
theorem dX12_readStep_3 : decode cX12_readStep 3 = .ok (.aload_n 0, 1) := by decide +kernel
theorem dX12_readStep_4 : decode cX12_readStep 4 = .ok (.invokevirtual 134, 3) := by decide +kernel
theorem dX12_readStep_7 : decode cX12_readStep 7 = .ok (.invokestatic 221, 3) := by decide +kernel
theorem dX12_readStep_10 : decode cX12_readStep 10 = .ok (.istore_n 2, 1) := by decide +kernel
theorem dX12_readStep_11 : decode cX12_readStep 11 = .ok (.iload_n 2, 1) := by decide +kernel
theorem dX12_readStep_12 : decode cX12_readStep 12 = .ok (.iconst (-1), 1) := by decide +kernel
theorem dX12_readStep_13 : decode cX12_readStep 13 = .ok (.if_icmp .ne 9, 3) := by decide +kernel
theorem dX12_readStep_16 : decode cX12_readStep 16 = .ok (.aload_n 0, 1) := by decide +kernel
theorem dX12_readStep_17 : decode cX12_readStep 17 = .ok (.invokevirtual 130, 3) := by decide +kernel
theorem dX12_readStep_20 : decode cX12_readStep 20 = .ok (.pop, 1) := by decide +kernel
theorem dX12_readStep_21 : decode cX12_readStep 21 = .ok (.return_, 1) := by decide +kernel
theorem dX12_readStep_22 : decode cX12_readStep 22 = .ok (.aload_n 0, 1) := by decide +kernel
theorem dX12_readStep_23 : decode cX12_readStep 23 = .ok (.dup, 1) := by decide +kernel
theorem dX12_readStep_24 : decode cX12_readStep 24 = .ok (.getfield 115, 3) := by decide +kernel
theorem dX12_readStep_27 : decode cX12_readStep 27 = .ok (.iconst 1, 1) := by decide +kernel
theorem dX12_readStep_28 : decode cX12_readStep 28 = .ok (.iadd, 1) := by decide +kernel
theorem dX12_readStep_29 : decode cX12_readStep 29 = .ok (.putfield 115, 3) := by decide +kernel
theorem dX12_readStep_32 : decode cX12_readStep 32 = .ok (.aload_n 0, 1) := by decide +kernel
theorem dX12_readStep_33 : decode cX12_readStep 33 = .ok (.getfield 55, 3) := by decide +kernel
theorem dX12_readStep_36 : decode cX12_readStep 36 = .ok (.iload_n 1, 1) := by decide +kernel
theorem dX12_readStep_37 : decode cX12_readStep 37 = .ok (.iload_n 2, 1) := by decide +kernel
theorem dX12_readStep_38 : decode cX12_readStep 38 = .ok (.iastore, 1) := by decide +kernel
theorem dX12_readStep_39 : decode cX12_readStep 39 = .ok (.aload_n 0, 1) := by decide +kernel
theorem dX12_readStep_40 : decode cX12_readStep 40 = .ok (.getfield 55, 3) := by decide +kernel
theorem dX12_readStep_43 : decode cX12_readStep 43 = .ok (.iload_n 1, 1) := by decide +kernel
theorem dX12_readStep_44 : decode cX12_readStep 44 = .ok (.iconst 1, 1) := by decide +kernel
theorem dX12_readStep_45 : decode cX12_readStep 45 = .ok (.iadd, 1) := by decide +kernel
theorem dX12_readStep_46 : decode cX12_readStep 46 = .ok (.iconst (-1), 1) := by decide +kernel
theorem dX12_readStep_47 : decode cX12_readStep 47 = .ok (.iastore, 1) := by decide +kernel
theorem dX12_readStep_48 : decode cX12_readStep 48 = .ok (.aload_n 0, 1) := by decide +kernel
theorem dX12_readStep_49 : decode cX12_readStep 49 = .ok (.getfield 55, 3) := by decide +kernel
theorem dX12_readStep_52 : decode cX12_readStep 52 = .ok (.iload_n 1, 1) := by decide +kernel
theorem dX12_readStep_53 : decode cX12_readStep 53 = .ok (.iconst 2, 1) := by decide +kernel
theorem dX12_readStep_54 : decode cX12_readStep 54 = .ok (.iadd, 1) := by decide +kernel
theorem dX12_readStep_55 : decode cX12_readStep 55 = .ok (.iconst (-1), 1) := by decide +kernel
theorem dX12_readStep_56 : decode cX12_readStep 56 = .ok (.iastore, 1) := by decide +kernel
theorem dX12_readStep_57 : decode cX12_readStep 57 = .ok (.iload_n 2, 1) := by decide +kernel
theorem dX12_readStep_58 : decode cX12_readStep 58 = .ok (.iconst 1, 1) := by decide +kernel
theorem dX12_readStep_59 : decode cX12_readStep 59 = .ok (.if_icmp .eq 9, 3) := by decide +kernel
theorem dX12_readStep_62 : decode cX12_readStep 62 = .ok (.iload_n 2, 1) := by decide +kernel
theorem dX12_readStep_63 : decode cX12_readStep 63 = .ok (.iconst 4, 1) := by decide +kernel
theorem dX12_readStep_64 : decode cX12_readStep 64 = .ok (.if_icmp .eq 4, 3) := by decide +kernel
theorem dX12_readStep_67 : decode cX12_readStep 67 = .ok (.return_, 1) := by decide +kernel
theorem dX12_readStep_68 : decode cX12_readStep 68 = .ok (.aload_n 0, 1) := by decide +kernel
theorem dX12_readStep_69 : decode cX12_readStep 69 = .ok (.getfield 55, 3) := by decide +kernel
theorem dX12_readStep_72 : decode cX12_readStep 72 = .ok (.iload_n 1, 1) := by decide +kernel
theorem dX12_readStep_73 : decode cX12_readStep 73 = .ok (.iconst 1, 1) := by decide +kernel
theorem dX12_readStep_74 : decode cX12_readStep 74 = .ok (.iadd, 1) := by decide +kernel
theorem dX12_readStep_75 : decode cX12_readStep 75 = .ok (.aload_n 0, 1) := by decide +kernel
theorem dX12_readStep_76 : decode cX12_readStep 76 = .ok (.invokevirtual 259, 3) := by decide +kernel
theorem dX12_readStep_79 : decode cX12_readStep 79 = .ok (.iastore, 1) := by decide +kernel
theorem dX12_readStep_80 : decode cX12_readStep 80 = .ok (.aload_n 0, 1) := by decide +kernel
theorem dX12_readStep_81 : decode cX12_readStep 81 = .ok (.getfield 124, 3) := by decide +kernel
theorem dX12_readStep_84 : decode cX12_readStep 84 = .ok (.iconst (-1), 1) := by decide +kernel
theorem dX12_readStep_85 : decode cX12_readStep 85 = .ok (.if_icmp .ne 20, 3) := by decide +kernel
theorem dX12_readStep_88 : decode cX12_readStep 88 = .ok (.iload_n 2, 1) := by decide +kernel
theorem dX12_readStep_89 : decode cX12_readStep 89 = .ok (.iconst 4, 1) := by decide +kernel
theorem dX12_readStep_90 : decode cX12_readStep 90 = .ok (.if_icmp .ne 15, 3) := by decide +kernel
theorem dX12_readStep_93 : decode cX12_readStep 93 = .ok (.aload_n 0, 1) := by decide +kernel
theorem dX12_readStep_94 : decode cX12_readStep 94 = .ok (.getfield 55, 3) := by decide +kernel
theorem dX12_readStep_97 : decode cX12_readStep 97 = .ok (.iload_n 1, 1) := by decide +kernel
theorem dX12_readStep_98 : decode cX12_readStep 98 = .ok (.iconst 2, 1) := by decide +kernel
theorem dX12_readStep_99 : decode cX12_readStep 99 = .ok (.iadd, 1) := by decide +kernel
theorem dX12_readStep_100 : decode cX12_readStep 100 = .ok (.aload_n 0, 1) := by decide +kernel
theorem dX12_readStep_101 : decode cX12_readStep 101 = .ok (.invokevirtual 259, 3) := by decide +kernel
theorem dX12_readStep_104 : decode cX12_readStep 104 = .ok (.iastore, 1) := by decide +kernel
theorem dX12_readStep_105 : decode cX12_readStep 105 = .ok (.return_, 1) := by decide +kernel
theorem dX12_readWeek_0 : decode cX12_readWeek 0 = .ok (.aload_n 0, 1) := by decide +kernel
theorem dX12_readWeek_1 : decode cX12_readWeek 1 = .ok (.aload_n 0, 1) := by decide +kernel
theorem dX12_readWeek_2 : decode cX12_readWeek 2 = .ok (.getfield 9, 3) := by decide +kernel
theorem dX12_readWeek_5 : decode cX12_readWeek 5 = .ok (.iconst 0, 1) := by decide +kernel
theorem dX12_readWeek_6 : decode cX12_readWeek 6 = .ok (.aload_n 0, 1) := by decide +kernel
theorem dX12_readWeek_7 : decode cX12_readWeek 7 = .ok (.getfield 105, 3) := by decide +kernel
theorem dX12_readWeek_10 : decode cX12_readWeek 10 = .ok (.invokevirtual 203, 3) := by decide +kernel
theorem dX12_readWeek_13 : decode cX12_readWeek 13 = .ok (.iconst 0, 1) := by decide +kernel
theorem dX12_readWeek_14 : decode cX12_readWeek 14 = .ok (.istore_n 1, 1) := by decide +kernel
theorem dX12_readWeek_15 : decode cX12_readWeek 15 = .ok (.iconst 1, 1) := by decide +kernel
theorem dX12_readWeek_16 : decode cX12_readWeek 16 = .ok (.istore_n 2, 1) := by decide +kernel
theorem dX12_readWeek_17 : decode cX12_readWeek 17 = .ok (.iload_n 2, 1) := by decide +kernel
theorem dX12_readWeek_18 : decode cX12_readWeek 18 = .ok (.ifCond .eq 73, 3) := by decide +kernel
theorem dX12_readWeek_21 : decode cX12_readWeek 21 = .ok (.aload_n 0, 1) := by decide +kernel
theorem dX12_readWeek_22 : decode cX12_readWeek 22 = .ok (.iconst 3, 1) := by decide +kernel
theorem dX12_readWeek_23 : decode cX12_readWeek 23 = .ok (.bipush 64, 2) := by decide +kernel
theorem dX12_readWeek_25 : decode cX12_readWeek 25 = .ok (.iload_n 1, 1) := by decide +kernel
theorem dX12_readWeek_26 : decode cX12_readWeek 26 = .ok (.iadd, 1) := by decide +kernel
theorem dX12_readWeek_27 : decode cX12_readWeek 27 = .ok (.imul, 1) := by decide +kernel
theorem dX12_readWeek_28 : decode cX12_readWeek 28 = .ok (.invokevirtual 262, 3) := by decide +kernel
theorem dX12_readWeek_31 : decode cX12_readWeek 31 = .ok (.aload_n 0, 1) := by decide +kernel
theorem dX12_readWeek_32 : decode cX12_readWeek 32 = .ok (.getfield 124, 3) := by decide +kernel
theorem dX12_readWeek_35 : decode cX12_readWeek 35 = .ok (.iconst (-1), 1) := by decide +kernel
theorem dX12_readWeek_36 : decode cX12_readWeek 36 = .ok (.if_icmp .eq 4, 3) := by decide +kernel
theorem dX12_readWeek_39 : decode cX12_readWeek 39 = .ok (.return_, 1) := by decide +kernel
theorem dX12_readWeek_40 : decode cX12_readWeek 40 = .ok (.iinc 1 1, 3) := by decide +kernel
theorem dX12_readWeek_43 : decode cX12_readWeek 43 = .ok (.aload_n 0, 1) := by decide +kernel
theorem dX12_readWeek_44 : decode cX12_readWeek 44 = .ok (.invokevirtual 134, 3) := by decide +kernel
theorem dX12_readWeek_47 : decode cX12_readWeek 47 = .ok (.bipush 59, 2) := by decide +kernel
theorem dX12_readWeek_49 : decode cX12_readWeek 49 = .ok (.if_icmp .ne 7, 3) := by decide +kernel
theorem dX12_readWeek_52 : decode cX12_readWeek 52 = .ok (.iconst 1, 1) := by decide +kernel
theorem dX12_readWeek_53 : decode cX12_readWeek 53 = .ok (.goto 4, 3) := by decide +kernel
theorem dX12_readWeek_56 : decode cX12_readWeek 56 = .ok (.iconst 0, 1) := by decide +kernel
theorem dX12_readWeek_57 : decode cX12_readWeek 57 = .ok (.istore_n 2, 1) := by decide +kernel
theorem dX12_readWeek_58 : decode cX12_readWeek 58 = .ok (.iload_n 2, 1) := by decide +kernel
theorem dX12_readWeek_59 : decode cX12_readWeek 59 = .ok (.ifCond .eq 15, 3) := by decide +kernel
theorem dX12_readWeek_62 : decode cX12_readWeek 62 = .ok (.iload_n 1, 1) := by decide +kernel
theorem dX12_readWeek_63 : decode cX12_readWeek 63 = .ok (.bipush 16, 2) := by decide +kernel
theorem dX12_readWeek_65 : decode cX12_readWeek 65 = .ok (.if_icmp .ne 9, 3) := by decide +kernel
theorem dX12_readWeek_68 : decode cX12_readWeek 68 = .ok (.aload_n 0, 1) := by decide +kernel
theorem dX12_readWeek_69 : decode cX12_readWeek 69 = .ok (.invokevirtual 130, 3) := by decide +kernel
theorem dX12_readWeek_72 : decode cX12_readWeek 72 = .ok (.pop, 1) := by decide +kernel
theorem dX12_readWeek_73 : decode cX12_readWeek 73 = .ok (.return_, 1) := by decide +kernel
theorem dX12_readWeek_74 : decode cX12_readWeek 74 = .ok (.iload_n 2, 1) := by decide +kernel
theorem dX12_readWeek_75 : decode cX12_readWeek 75 = .ok (.ifCond .eq (-58), 3) := by decide +kernel
theorem dX12_readWeek_78 : decode cX12_readWeek 78 = .ok (.aload_n 0, 1) := by decide +kernel
theorem dX12_readWeek_79 : decode cX12_readWeek 79 = .ok (.dup, 1) := by decide +kernel
theorem dX12_readWeek_80 : decode cX12_readWeek 80 = .ok (.getfield 115, 3) := by decide +kernel
theorem dX12_readWeek_83 : decode cX12_readWeek 83 = .ok (.iconst 1, 1) := by decide +kernel
theorem dX12_readWeek_84 : decode cX12_readWeek 84 = .ok (.iadd, 1) := by decide +kernel
theorem dX12_readWeek_85 : decode cX12_readWeek 85 = .ok (.putfield 115, 3) := by decide +kernel
theorem dX12_readWeek_88 : decode cX12_readWeek 88 = .ok (.goto (-71), 3) := by decide +kernel
theorem dX12_readWeek_91 : decode cX12_readWeek 91 = .ok (.aload_n 0, 1) := by decide +kernel
theorem dX12_readWeek_92 : decode cX12_readWeek 92 = .ok (.getfield 58, 3) := by decide +kernel
theorem dX12_readWeek_95 : decode cX12_readWeek 95 = .ok (.iconst 4, 1) := by decide +kernel
theorem dX12_readWeek_96 : decode cX12_readWeek 96 = .ok (.iload_n 1, 1) := by decide +kernel
theorem dX12_readWeek_97 : decode cX12_readWeek 97 = .ok (.iastore, 1) := by decide +kernel
theorem dX12_readWeek_98 : decode cX12_readWeek 98 = .ok (.aload_n 0, 1) := by decide +kernel
theorem dX12_readWeek_99 : decode cX12_readWeek 99 = .ok (.invokevirtual 134, 3) := by decide +kernel
theorem dX12_readWeek_102 : decode cX12_readWeek 102 = .ok (.iconst (-1), 1) := by decide +kernel
theorem dX12_readWeek_103 : decode cX12_readWeek 103 = .ok (.if_icmp .eq 8, 3) := by decide +kernel
theorem dX12_readWeek_106 : decode cX12_readWeek 106 = .ok (.aload_n 0, 1) := by decide +kernel
theorem dX12_readWeek_107 : decode cX12_readWeek 107 = .ok (.invokevirtual 130, 3) := by decide +kernel
theorem dX12_readWeek_110 : decode cX12_readWeek 110 = .ok (.pop, 1) := by decide +kernel
theorem dX12_readWeek_111 : decode cX12_readWeek 111 = .ok (.return_, 1) := by decide +kernel
theorem dX12_fault_0 : decode cX12_fault 0 = .ok (.aload_n 0, 1) := by decide +kernel
theorem dX12_fault_1 : decode cX12_fault 1 = .ok (.iconst 0, 1) := by decide +kernel
theorem dX12_fault_2 : decode cX12_fault 2 = .ok (.putfield 92, 3) := by decide +kernel
theorem dX12_fault_5 : decode cX12_fault 5 = .ok (.iload_n 1, 1) := by decide +kernel
theorem dX12_fault_6 : decode cX12_fault 6 = .ok (.i2l, 1) := by decide +kernel
theorem dX12_fault_7 : decode cX12_fault 7 = .ok (.lconst 0, 1) := by decide +kernel
theorem dX12_fault_8 : decode cX12_fault 8 = .ok (.ldc2_w 265, 3) := by decide +kernel
theorem dX12_fault_11 : decode cX12_fault 11 = .ok (.invokestatic 213, 3) := by decide +kernel
theorem dX12_fault_14 : decode cX12_fault 14 = .ok (.ifCond .ne 6, 3) := by decide +kernel
theorem dX12_fault_17 : decode cX12_fault 17 = .ok (.bipush (-2), 2) := by decide +kernel
theorem dX12_fault_19 : decode cX12_fault 19 = .ok (.ireturn, 1) := by decide +kernel
theorem dX12_fault_20 : decode cX12_fault 20 = .ok (.iload_n 1, 1) := by decide +kernel
theorem dX12_fault_21 : decode cX12_fault 21 = .ok (.ifCond .ne 7, 3) := by decide +kernel
theorem dX12_fault_24 : decode cX12_fault 24 = .ok (.aload_n 0, 1) := by decide +kernel
theorem dX12_fault_25 : decode cX12_fault 25 = .ok (.invokevirtual 267, 3) := by decide +kernel
theorem dX12_fault_28 : decode cX12_fault 28 = .ok (.iload_n 1, 1) := by decide +kernel
theorem dX12_fault_29 : decode cX12_fault 29 = .ok (.iconst 1, 1) := by decide +kernel
theorem dX12_fault_30 : decode cX12_fault 30 = .ok (.if_icmp .ne 16, 3) := by decide +kernel
theorem dX12_fault_33 : decode cX12_fault 33 = .ok (.aload_n 0, 1) := by decide +kernel
theorem dX12_fault_34 : decode cX12_fault 34 = .ok (.aload_n 0, 1) := by decide +kernel
theorem dX12_fault_35 : decode cX12_fault 35 = .ok (.getfield 9, 3) := by decide +kernel
theorem dX12_fault_38 : decode cX12_fault 38 = .ok (.iconst 0, 1) := by decide +kernel
theorem dX12_fault_39 : decode cX12_fault 39 = .ok (.aload_n 0, 1) := by decide +kernel
theorem dX12_fault_40 : decode cX12_fault 40 = .ok (.getfield 105, 3) := by decide +kernel
theorem dX12_fault_43 : decode cX12_fault 43 = .ok (.invokevirtual 270, 3) := by decide +kernel
theorem dX12_fault_46 : decode cX12_fault 46 = .ok (.iload_n 1, 1) := by decide +kernel
theorem dX12_fault_47 : decode cX12_fault 47 = .ok (.iconst 2, 1) := by decide +kernel
theorem dX12_fault_48 : decode cX12_fault 48 = .ok (.if_icmp .ne 7, 3) := by decide +kernel
theorem dX12_fault_51 : decode cX12_fault 51 = .ok (.aload_n 0, 1) := by decide +kernel
theorem dX12_fault_52 : decode cX12_fault 52 = .ok (.invokevirtual 273, 3) := by decide +kernel
theorem dX12_fault_55 : decode cX12_fault 55 = .ok (.aload_n 0, 1) := by decide +kernel
theorem dX12_fault_56 : decode cX12_fault 56 = .ok (.getfield 124, 3) := by decide +kernel
theorem dX12_fault_59 : decode cX12_fault 59 = .ok (.ireturn, 1) := by decide +kernel
theorem dX12_text_0 : decode cX12_text 0 = .ok (.aload_n 0, 1) := by decide +kernel
theorem dX12_text_1 : decode cX12_text 1 = .ok (.iconst 0, 1) := by decide +kernel
theorem dX12_text_2 : decode cX12_text 2 = .ok (.putfield 92, 3) := by decide +kernel
theorem dX12_text_5 : decode cX12_text 5 = .ok (.iload_n 1, 1) := by decide +kernel
theorem dX12_text_6 : decode cX12_text 6 = .ok (.i2l, 1) := by decide +kernel
theorem dX12_text_7 : decode cX12_text 7 = .ok (.lconst 0, 1) := by decide +kernel
theorem dX12_text_8 : decode cX12_text 8 = .ok (.ldc2_w 265, 3) := by decide +kernel
theorem dX12_text_11 : decode cX12_text 11 = .ok (.invokestatic 213, 3) := by decide +kernel
theorem dX12_text_14 : decode cX12_text 14 = .ok (.ifCond .eq 38, 3) := by decide +kernel
theorem dX12_text_17 : decode cX12_text 17 = .ok (.iload_n 1, 1) := by decide +kernel
theorem dX12_text_18 : decode cX12_text 18 = .ok (.iconst 1, 1) := by decide +kernel
theorem dX12_text_19 : decode cX12_text 19 = .ok (.if_icmp .ne 11, 3) := by decide +kernel
theorem dX12_text_22 : decode cX12_text 22 = .ok (.aload_n 0, 1) := by decide +kernel
theorem dX12_text_23 : decode cX12_text 23 = .ok (.getfield 276, 3) := by decide +kernel
theorem dX12_text_26 : decode cX12_text 26 = .ok (.iconst 4, 1) := by decide +kernel
theorem dX12_text_27 : decode cX12_text 27 = .ok (.if_icmp .eq 25, 3) := by decide +kernel
theorem dX12_text_30 : decode cX12_text 30 = .ok (.iload_n 1, 1) := by decide +kernel
theorem dX12_text_31 : decode cX12_text 31 = .ok (.iconst 2, 1) := by decide +kernel
theorem dX12_text_32 : decode cX12_text 32 = .ok (.if_icmp .ne 11, 3) := by decide +kernel
theorem dX12_text_35 : decode cX12_text 35 = .ok (.aload_n 0, 1) := by decide +kernel
theorem dX12_text_36 : decode cX12_text 36 = .ok (.getfield 279, 3) := by decide +kernel
theorem dX12_text_39 : decode cX12_text 39 = .ok (.iconst 4, 1) := by decide +kernel
theorem dX12_text_40 : decode cX12_text 40 = .ok (.if_icmp .eq 12, 3) := by decide +kernel
theorem dX12_text_43 : decode cX12_text 43 = .ok (.aload_n 0, 1) := by decide +kernel
theorem dX12_text_44 : decode cX12_text 44 = .ok (.iload_n 1, 1) := by decide +kernel
theorem dX12_text_45 : decode cX12_text 45 = .ok (.invokevirtual 282, 3) := by decide +kernel
theorem dX12_text_48 : decode cX12_text 48 = .ok (.iconst (-1), 1) := by decide +kernel
theorem dX12_text_49 : decode cX12_text 49 = .ok (.if_icmp .eq 5, 3) := by decide +kernel
theorem dX12_text_52 : decode cX12_text 52 = .ok (.iconst (-1), 1) := by decide +kernel
theorem dX12_text_53 : decode cX12_text 53 = .ok (.ireturn, 1) := by decide +kernel
theorem dX12_text_54 : decode cX12_text 54 = .ok (.aload_n 0, 1) := by decide +kernel
theorem dX12_text_55 : decode cX12_text 55 = .ok (.getfield 105, 3) := by decide +kernel
theorem dX12_text_58 : decode cX12_text 58 = .ok (.istore_n 2, 1) := by decide +kernel
theorem dX12_text_59 : decode cX12_text 59 = .ok (.aload_n 0, 1) := by decide +kernel
theorem dX12_text_60 : decode cX12_text 60 = .ok (.iconst 0, 1) := by decide +kernel
theorem dX12_text_61 : decode cX12_text 61 = .ok (.putfield 105, 3) := by decide +kernel
theorem dX12_text_64 : decode cX12_text 64 = .ok (.iload_n 1, 1) := by decide +kernel
theorem dX12_text_65 : decode cX12_text 65 = .ok (.iconst 1, 1) := by decide +kernel
theorem dX12_text_66 : decode cX12_text 66 = .ok (.if_icmp .ne 64, 3) := by decide +kernel
theorem dX12_text_69 : decode cX12_text 69 = .ok (.iconst 0, 1) := by decide +kernel
theorem dX12_text_70 : decode cX12_text 70 = .ok (.istore_n 3, 1) := by decide +kernel
theorem dX12_text_71 : decode cX12_text 71 = .ok (.iload_n 3, 1) := by decide +kernel
theorem dX12_text_72 : decode cX12_text 72 = .ok (.iload_n 2, 1) := by decide +kernel
theorem dX12_text_73 : decode cX12_text 73 = .ok (.if_icmp .ge 30, 3) := by decide +kernel
theorem dX12_text_76 : decode cX12_text 76 = .ok (.aload_n 0, 1) := by decide +kernel
theorem dX12_text_77 : decode cX12_text 77 = .ok (.getfield 13, 3) := by decide +kernel
theorem dX12_text_80 : decode cX12_text 80 = .ok (.sipush 240, 3) := by decide +kernel
theorem dX12_text_83 : decode cX12_text 83 = .ok (.aload_n 0, 1) := by decide +kernel
theorem dX12_text_84 : decode cX12_text 84 = .ok (.getfield 276, 3) := by decide +kernel
theorem dX12_text_87 : decode cX12_text 87 = .ok (.imul, 1) := by decide +kernel
theorem dX12_text_88 : decode cX12_text 88 = .ok (.iload_n 3, 1) := by decide +kernel
theorem dX12_text_89 : decode cX12_text 89 = .ok (.iadd, 1) := by decide +kernel
theorem dX12_text_90 : decode cX12_text 90 = .ok (.aload_n 0, 1) := by decide +kernel
theorem dX12_text_91 : decode cX12_text 91 = .ok (.getfield 9, 3) := by decide +kernel
theorem dX12_text_94 : decode cX12_text 94 = .ok (.iload_n 3, 1) := by decide +kernel
theorem dX12_text_95 : decode cX12_text 95 = .ok (.baload, 1) := by decide +kernel
theorem dX12_text_96 : decode cX12_text 96 = .ok (.bastore, 1) := by decide +kernel
theorem dX12_text_97 : decode cX12_text 97 = .ok (.iinc 3 1, 3) := by decide +kernel
theorem dX12_text_100 : decode cX12_text 100 = .ok (.goto (-29), 3) := by decide +kernel
theorem dX12_text_103 : decode cX12_text 103 = .ok (.aload_n 0, 1) := by decide +kernel
theorem dX12_text_104 : decode cX12_text 104 = .ok (.getfield 16, 3) := by decide +kernel
theorem dX12_text_107 : decode cX12_text 107 = .ok (.aload_n 0, 1) := by decide +kernel
theorem dX12_text_108 : decode cX12_text 108 = .ok (.getfield 276, 3) := by decide +kernel
theorem dX12_text_111 : decode cX12_text 111 = .ok (.iload_n 2, 1) := by decide +kernel
theorem dX12_text_112 : decode cX12_text 112 = .ok (.iastore, 1) := by decide +kernel
theorem dX12_text_113 : decode cX12_text 113 = .ok (.aload_n 0, 1) := by decide +kernel
theorem dX12_text_114 : decode cX12_text 114 = .ok (.dup, 1) := by decide +kernel
theorem dX12_text_115 : decode cX12_text 115 = .ok (.getfield 276, 3) := by decide +kernel
theorem dX12_text_118 : decode cX12_text 118 = .ok (.iconst 1, 1) := by decide +kernel
theorem dX12_text_119 : decode cX12_text 119 = .ok (.iadd, 1) := by decide +kernel
theorem dX12_text_120 : decode cX12_text 120 = .ok (.putfield 276, 3) := by decide +kernel
theorem dX12_text_123 : decode cX12_text 123 = .ok (.aload_n 0, 1) := by decide +kernel
theorem dX12_text_124 : decode cX12_text 124 = .ok (.getfield 276, 3) := by decide +kernel
theorem dX12_text_127 : decode cX12_text 127 = .ok (.iconst 1, 1) := by decide +kernel
theorem dX12_text_128 : decode cX12_text 128 = .ok (.isub, 1) := by decide +kernel
theorem dX12_text_129 : decode cX12_text 129 = .ok (.ireturn, 1) := by decide +kernel
theorem dX12_text_130 : decode cX12_text 130 = .ok (.iload_n 1, 1) := by decide +kernel
theorem dX12_text_131 : decode cX12_text 131 = .ok (.iconst 2, 1) := by decide +kernel
theorem dX12_text_132 : decode cX12_text 132 = .ok (.if_icmp .ne 73, 3) := by decide +kernel
theorem dX12_text_135 : decode cX12_text 135 = .ok (.iconst 0, 1) := by decide +kernel
theorem dX12_text_136 : decode cX12_text 136 = .ok (.istore_n 3, 1) := by decide +kernel
theorem dX12_text_137 : decode cX12_text 137 = .ok (.iload_n 3, 1) := by decide +kernel
theorem dX12_text_138 : decode cX12_text 138 = .ok (.bipush 48, 2) := by decide +kernel
theorem dX12_text_140 : decode cX12_text 140 = .ok (.if_icmp .ge 33, 3) := by decide +kernel
theorem dX12_text_143 : decode cX12_text 143 = .ok (.aload_n 0, 1) := by decide +kernel
theorem dX12_text_144 : decode cX12_text 144 = .ok (.getfield 55, 3) := by decide +kernel
theorem dX12_text_147 : decode cX12_text 147 = .ok (.bipush 48, 2) := by decide +kernel
theorem dX12_text_149 : decode cX12_text 149 = .ok (.aload_n 0, 1) := by decide +kernel
theorem dX12_text_150 : decode cX12_text 150 = .ok (.getfield 279, 3) := by decide +kernel
theorem dX12_text_153 : decode cX12_text 153 = .ok (.imul, 1) := by decide +kernel
theorem dX12_text_154 : decode cX12_text 154 = .ok (.iload_n 3, 1) := by decide +kernel
theorem dX12_text_155 : decode cX12_text 155 = .ok (.iadd, 1) := by decide +kernel
theorem dX12_text_156 : decode cX12_text 156 = .ok (.aload_n 0, 1) := by decide +kernel
theorem dX12_text_157 : decode cX12_text 157 = .ok (.getfield 55, 3) := by decide +kernel
theorem dX12_text_160 : decode cX12_text 160 = .ok (.sipush 192, 3) := by decide +kernel
theorem dX12_text_163 : decode cX12_text 163 = .ok (.iload_n 3, 1) := by decide +kernel
theorem dX12_text_164 : decode cX12_text 164 = .ok (.iadd, 1) := by decide +kernel
theorem dX12_text_165 : decode cX12_text 165 = .ok (.iaload, 1) := by decide +kernel
theorem dX12_text_166 : decode cX12_text 166 = .ok (.iastore, 1) := by decide +kernel
theorem dX12_text_167 : decode cX12_text 167 = .ok (.iinc 3 1, 3) := by decide +kernel
theorem dX12_text_170 : decode cX12_text 170 = .ok (.goto (-33), 3) := by decide +kernel
theorem dX12_text_173 : decode cX12_text 173 = .ok (.aload_n 0, 1) := by decide +kernel
theorem dX12_text_174 : decode cX12_text 174 = .ok (.getfield 58, 3) := by decide +kernel
theorem dX12_text_177 : decode cX12_text 177 = .ok (.aload_n 0, 1) := by decide +kernel
theorem dX12_text_178 : decode cX12_text 178 = .ok (.getfield 279, 3) := by decide +kernel
theorem dX12_text_181 : decode cX12_text 181 = .ok (.aload_n 0, 1) := by decide +kernel
theorem dX12_text_182 : decode cX12_text 182 = .ok (.getfield 58, 3) := by decide +kernel
theorem dX12_text_185 : decode cX12_text 185 = .ok (.iconst 4, 1) := by decide +kernel
theorem dX12_text_186 : decode cX12_text 186 = .ok (.iaload, 1) := by decide +kernel
theorem dX12_text_187 : decode cX12_text 187 = .ok (.iastore, 1) := by decide +kernel
theorem dX12_text_188 : decode cX12_text 188 = .ok (.aload_n 0, 1) := by decide +kernel
theorem dX12_text_189 : decode cX12_text 189 = .ok (.dup, 1) := by decide +kernel
theorem dX12_text_190 : decode cX12_text 190 = .ok (.getfield 279, 3) := by decide +kernel
theorem dX12_text_193 : decode cX12_text 193 = .ok (.iconst 1, 1) := by decide +kernel
theorem dX12_text_194 : decode cX12_text 194 = .ok (.iadd, 1) := by decide +kernel
theorem dX12_text_195 : decode cX12_text 195 = .ok (.putfield 279, 3) := by decide +kernel
theorem dX12_text_198 : decode cX12_text 198 = .ok (.aload_n 0, 1) := by decide +kernel
theorem dX12_text_199 : decode cX12_text 199 = .ok (.getfield 279, 3) := by decide +kernel
theorem dX12_text_202 : decode cX12_text 202 = .ok (.iconst 1, 1) := by decide +kernel
theorem dX12_text_203 : decode cX12_text 203 = .ok (.isub, 1) := by decide +kernel
theorem dX12_text_204 : decode cX12_text 204 = .ok (.ireturn, 1) := by decide +kernel
theorem dX12_text_205 : decode cX12_text 205 = .ok (.aload_n 0, 1) := by decide +kernel
theorem dX12_text_206 : decode cX12_text 206 = .ok (.aload_n 0, 1) := by decide +kernel
theorem dX12_text_207 : decode cX12_text 207 = .ok (.getfield 238, 3) := by decide +kernel
theorem dX12_text_210 : decode cX12_text 210 = .ok (.putfield 284, 3) := by decide +kernel
theorem dX12_text_213 : decode cX12_text 213 = .ok (.aload_n 0, 1) := by decide +kernel
theorem dX12_text_214 : decode cX12_text 214 = .ok (.aload_n 0, 1) := by decide +kernel
theorem dX12_text_215 : decode cX12_text 215 = .ok (.getfield 241, 3) := by decide +kernel
theorem dX12_text_218 : decode cX12_text 218 = .ok (.putfield 287, 3) := by decide +kernel
theorem dX12_text_221 : decode cX12_text 221 = .ok (.iconst 0, 1) := by decide +kernel
theorem dX12_text_222 : decode cX12_text 222 = .ok (.istore_n 3, 1) := by decide +kernel
theorem dX12_text_223 : decode cX12_text 223 = .ok (.iload_n 3, 1) := by decide +kernel
theorem dX12_text_224 : decode cX12_text 224 = .ok (.iconst 3, 1) := by decide +kernel
theorem dX12_text_225 : decode cX12_text 225 = .ok (.if_icmp .ge 21, 3) := by decide +kernel
theorem dX12_text_228 : decode cX12_text 228 = .ok (.aload_n 0, 1) := by decide +kernel
theorem dX12_text_229 : decode cX12_text 229 = .ok (.getfield 37, 3) := by decide +kernel
theorem dX12_text_232 : decode cX12_text 232 = .ok (.iload_n 3, 1) := by decide +kernel
theorem dX12_text_233 : decode cX12_text 233 = .ok (.aload_n 0, 1) := by decide +kernel
theorem dX12_text_234 : decode cX12_text 234 = .ok (.getfield 40, 3) := by decide +kernel
theorem dX12_text_237 : decode cX12_text 237 = .ok (.iload_n 3, 1) := by decide +kernel
theorem dX12_text_238 : decode cX12_text 238 = .ok (.iaload, 1) := by decide +kernel
theorem dX12_text_239 : decode cX12_text 239 = .ok (.iastore, 1) := by decide +kernel
theorem dX12_text_240 : decode cX12_text 240 = .ok (.iinc 3 1, 3) := by decide +kernel
theorem dX12_text_243 : decode cX12_text 243 = .ok (.goto (-20), 3) := by decide +kernel
theorem dX12_text_246 : decode cX12_text 246 = .ok (.iconst 0, 1) := by decide +kernel
theorem dX12_text_247 : decode cX12_text 247 = .ok (.istore_n 3, 1) := by decide +kernel
theorem dX12_text_248 : decode cX12_text 248 = .ok (.iload_n 3, 1) := by decide +kernel
theorem dX12_text_249 : decode cX12_text 249 = .ok (.bipush 15, 2) := by decide +kernel
theorem dX12_text_251 : decode cX12_text 251 = .ok (.if_icmp .ge 21, 3) := by decide +kernel
theorem dX12_text_254 : decode cX12_text 254 = .ok (.aload_n 0, 1) := by decide +kernel
theorem dX12_text_255 : decode cX12_text 255 = .ok (.getfield 43, 3) := by decide +kernel
theorem dX12_text_258 : decode cX12_text 258 = .ok (.iload_n 3, 1) := by decide +kernel
theorem dX12_text_259 : decode cX12_text 259 = .ok (.aload_n 0, 1) := by decide +kernel
theorem dX12_text_260 : decode cX12_text 260 = .ok (.getfield 46, 3) := by decide +kernel
theorem dX12_text_263 : decode cX12_text 263 = .ok (.iload_n 3, 1) := by decide +kernel
theorem dX12_text_264 : decode cX12_text 264 = .ok (.iaload, 1) := by decide +kernel
theorem dX12_text_265 : decode cX12_text 265 = .ok (.iastore, 1) := by decide +kernel
theorem dX12_text_266 : decode cX12_text 266 = .ok (.iinc 3 1, 3) := by decide +kernel
theorem dX12_text_269 : decode cX12_text 269 = .ok (.goto (-21), 3) := by decide +kernel
theorem dX12_text_272 : decode cX12_text 272 = .ok (.iconst 0, 1) := by decide +kernel
theorem dX12_text_273 : decode cX12_text 273 = .ok (.istore_n 3, 1) := by decide +kernel
theorem dX12_text_274 : decode cX12_text 274 = .ok (.iload_n 3, 1) := by decide +kernel
theorem dX12_text_275 : decode cX12_text 275 = .ok (.bipush 24, 2) := by decide +kernel
theorem dX12_text_277 : decode cX12_text 277 = .ok (.if_icmp .ge 21, 3) := by decide +kernel
theorem dX12_text_280 : decode cX12_text 280 = .ok (.aload_n 0, 1) := by decide +kernel
theorem dX12_text_281 : decode cX12_text 281 = .ok (.getfield 49, 3) := by decide +kernel
theorem dX12_text_284 : decode cX12_text 284 = .ok (.iload_n 3, 1) := by decide +kernel
theorem dX12_text_285 : decode cX12_text 285 = .ok (.aload_n 0, 1) := by decide +kernel
theorem dX12_text_286 : decode cX12_text 286 = .ok (.getfield 52, 3) := by decide +kernel
theorem dX12_text_289 : decode cX12_text 289 = .ok (.iload_n 3, 1) := by decide +kernel
theorem dX12_text_290 : decode cX12_text 290 = .ok (.iaload, 1) := by decide +kernel
theorem dX12_text_291 : decode cX12_text 291 = .ok (.iastore, 1) := by decide +kernel
theorem dX12_text_292 : decode cX12_text 292 = .ok (.iinc 3 1, 3) := by decide +kernel
theorem dX12_text_295 : decode cX12_text 295 = .ok (.goto (-21), 3) := by decide +kernel
theorem dX12_text_298 : decode cX12_text 298 = .ok (.iconst 0, 1) := by decide +kernel
theorem dX12_text_299 : decode cX12_text 299 = .ok (.istore_n 3, 1) := by decide +kernel
theorem dX12_text_300 : decode cX12_text 300 = .ok (.iload_n 3, 1) := by decide +kernel
theorem dX12_text_301 : decode cX12_text 301 = .ok (.sipush 217, 3) := by decide +kernel
theorem dX12_text_304 : decode cX12_text 304 = .ok (.if_icmp .ge 16, 3) := by decide +kernel
theorem dX12_text_307 : decode cX12_text 307 = .ok (.aload_n 0, 1) := by decide +kernel
theorem dX12_text_308 : decode cX12_text 308 = .ok (.getfield 61, 3) := by decide +kernel
theorem dX12_text_311 : decode cX12_text 311 = .ok (.iload_n 3, 1) := by decide +kernel
theorem dX12_text_312 : decode cX12_text 312 = .ok (.iconst 0, 1) := by decide +kernel
theorem dX12_text_313 : decode cX12_text 313 = .ok (.iastore, 1) := by decide +kernel
theorem dX12_text_314 : decode cX12_text 314 = .ok (.iinc 3 1, 3) := by decide +kernel
theorem dX12_text_317 : decode cX12_text 317 = .ok (.goto (-17), 3) := by decide +kernel
theorem dX12_text_320 : decode cX12_text 320 = .ok (.iconst 0, 1) := by decide +kernel
theorem dX12_text_321 : decode cX12_text 321 = .ok (.istore_n 3, 1) := by decide +kernel
theorem dX12_text_322 : decode cX12_text 322 = .ok (.iload_n 3, 1) := by decide +kernel
theorem dX12_text_323 : decode cX12_text 323 = .ok (.aload_n 0, 1) := by decide +kernel
theorem dX12_text_324 : decode cX12_text 324 = .ok (.getfield 287, 3) := by decide +kernel
theorem dX12_text_327 : decode cX12_text 327 = .ok (.if_icmp .ge 49, 3) := by decide +kernel
theorem dX12_text_330 : decode cX12_text 330 = .ok (.aload_n 0, 1) := by decide +kernel
theorem dX12_text_331 : decode cX12_text 331 = .ok (.getfield 61, 3) := by decide +kernel
theorem dX12_text_334 : decode cX12_text 334 = .ok (.iconst 4, 1) := by decide +kernel
theorem dX12_text_335 : decode cX12_text 335 = .ok (.iload_n 3, 1) := by decide +kernel
theorem dX12_text_336 : decode cX12_text 336 = .ok (.imul, 1) := by decide +kernel
theorem dX12_text_337 : decode cX12_text 337 = .ok (.iconst 0, 1) := by decide +kernel
theorem dX12_text_338 : decode cX12_text 338 = .ok (.iadd, 1) := by decide +kernel
theorem dX12_text_339 : decode cX12_text 339 = .ok (.aload_n 0, 1) := by decide +kernel
theorem dX12_text_340 : decode cX12_text 340 = .ok (.getfield 49, 3) := by decide +kernel
theorem dX12_text_343 : decode cX12_text 343 = .ok (.iconst 4, 1) := by decide +kernel
theorem dX12_text_344 : decode cX12_text 344 = .ok (.iload_n 3, 1) := by decide +kernel
theorem dX12_text_345 : decode cX12_text 345 = .ok (.imul, 1) := by decide +kernel
theorem dX12_text_346 : decode cX12_text 346 = .ok (.iconst 1, 1) := by decide +kernel
theorem dX12_text_347 : decode cX12_text 347 = .ok (.iadd, 1) := by decide +kernel
theorem dX12_text_348 : decode cX12_text 348 = .ok (.iaload, 1) := by decide +kernel
theorem dX12_text_349 : decode cX12_text 349 = .ok (.iastore, 1) := by decide +kernel
theorem dX12_text_350 : decode cX12_text 350 = .ok (.aload_n 0, 1) := by decide +kernel
theorem dX12_text_351 : decode cX12_text 351 = .ok (.getfield 61, 3) := by decide +kernel
theorem dX12_text_354 : decode cX12_text 354 = .ok (.iconst 4, 1) := by decide +kernel
theorem dX12_text_355 : decode cX12_text 355 = .ok (.iload_n 3, 1) := by decide +kernel
theorem dX12_text_356 : decode cX12_text 356 = .ok (.imul, 1) := by decide +kernel
theorem dX12_text_357 : decode cX12_text 357 = .ok (.iconst 1, 1) := by decide +kernel
theorem dX12_text_358 : decode cX12_text 358 = .ok (.iadd, 1) := by decide +kernel
theorem dX12_text_359 : decode cX12_text 359 = .ok (.aload_n 0, 1) := by decide +kernel
theorem dX12_text_360 : decode cX12_text 360 = .ok (.getfield 49, 3) := by decide +kernel
theorem dX12_text_363 : decode cX12_text 363 = .ok (.iconst 4, 1) := by decide +kernel
theorem dX12_text_364 : decode cX12_text 364 = .ok (.iload_n 3, 1) := by decide +kernel
theorem dX12_text_365 : decode cX12_text 365 = .ok (.imul, 1) := by decide +kernel
theorem dX12_text_366 : decode cX12_text 366 = .ok (.iconst 2, 1) := by decide +kernel
theorem dX12_text_367 : decode cX12_text 367 = .ok (.iadd, 1) := by decide +kernel
theorem dX12_text_368 : decode cX12_text 368 = .ok (.iaload, 1) := by decide +kernel
theorem dX12_text_369 : decode cX12_text 369 = .ok (.iastore, 1) := by decide +kernel
theorem dX12_text_370 : decode cX12_text 370 = .ok (.iinc 3 1, 3) := by decide +kernel
theorem dX12_text_373 : decode cX12_text 373 = .ok (.goto (-51), 3) := by decide +kernel
theorem dX12_text_376 : decode cX12_text 376 = .ok (.aload_n 0, 1) := by decide +kernel
theorem dX12_text_377 : decode cX12_text 377 = .ok (.getfield 61, 3) := by decide +kernel
theorem dX12_text_380 : decode cX12_text 380 = .ok (.bipush 32, 2) := by decide +kernel
theorem dX12_text_382 : decode cX12_text 382 = .ok (.aload_n 0, 1) := by decide +kernel
theorem dX12_text_383 : decode cX12_text 383 = .ok (.getfield 37, 3) := by decide +kernel
theorem dX12_text_386 : decode cX12_text 386 = .ok (.iconst 0, 1) := by decide +kernel
theorem dX12_text_387 : decode cX12_text 387 = .ok (.iaload, 1) := by decide +kernel
theorem dX12_text_388 : decode cX12_text 388 = .ok (.iastore, 1) := by decide +kernel
theorem dX12_text_389 : decode cX12_text 389 = .ok (.aload_n 0, 1) := by decide +kernel
theorem dX12_text_390 : decode cX12_text 390 = .ok (.getfield 61, 3) := by decide +kernel
theorem dX12_text_393 : decode cX12_text 393 = .ok (.bipush 33, 2) := by decide +kernel
theorem dX12_text_395 : decode cX12_text 395 = .ok (.aload_n 0, 1) := by decide +kernel
theorem dX12_text_396 : decode cX12_text 396 = .ok (.getfield 37, 3) := by decide +kernel
theorem dX12_text_399 : decode cX12_text 399 = .ok (.iconst 2, 1) := by decide +kernel
theorem dX12_text_400 : decode cX12_text 400 = .ok (.iaload, 1) := by decide +kernel
theorem dX12_text_401 : decode cX12_text 401 = .ok (.iastore, 1) := by decide +kernel
theorem dX12_text_402 : decode cX12_text 402 = .ok (.aload_n 0, 1) := by decide +kernel
theorem dX12_text_403 : decode cX12_text 403 = .ok (.iconst 0, 1) := by decide +kernel
theorem dX12_text_404 : decode cX12_text 404 = .ok (.putfield 290, 3) := by decide +kernel
theorem dX12_text_407 : decode cX12_text 407 = .ok (.aload_n 0, 1) := by decide +kernel
theorem dX12_text_408 : decode cX12_text 408 = .ok (.iconst 0, 1) := by decide +kernel
theorem dX12_text_409 : decode cX12_text 409 = .ok (.putfield 293, 3) := by decide +kernel
theorem dX12_text_412 : decode cX12_text 412 = .ok (.aload_n 0, 1) := by decide +kernel
theorem dX12_text_413 : decode cX12_text 413 = .ok (.iconst 0, 1) := by decide +kernel
theorem dX12_text_414 : decode cX12_text 414 = .ok (.putfield 296, 3) := by decide +kernel
theorem dX12_text_417 : decode cX12_text 417 = .ok (.aload_n 0, 1) := by decide +kernel
theorem dX12_text_418 : decode cX12_text 418 = .ok (.getfield 287, 3) := by decide +kernel
theorem dX12_text_421 : decode cX12_text 421 = .ok (.ireturn, 1) := by decide +kernel
theorem dX12_copy_0 : decode cX12_copy 0 = .ok (.iconst 0, 1) := by decide +kernel
theorem dX12_copy_1 : decode cX12_copy 1 = .ok (.istore_n 2, 1) := by decide +kernel
theorem dX12_copy_2 : decode cX12_copy 2 = .ok (.iload_n 2, 1) := by decide +kernel
theorem dX12_copy_3 : decode cX12_copy 3 = .ok (.bipush 36, 2) := by decide +kernel
theorem dX12_copy_5 : decode cX12_copy 5 = .ok (.if_icmp .ge 15, 3) := by decide +kernel
theorem dX12_copy_8 : decode cX12_copy 8 = .ok (.aload_n 1, 1) := by decide +kernel
theorem dX12_copy_9 : decode cX12_copy 9 = .ok (.iload_n 2, 1) := by decide +kernel
theorem dX12_copy_10 : decode cX12_copy 10 = .ok (.aload_n 0, 1) := by decide +kernel
theorem dX12_copy_11 : decode cX12_copy 11 = .ok (.iload_n 2, 1) := by decide +kernel
theorem dX12_copy_12 : decode cX12_copy 12 = .ok (.iaload, 1) := by decide +kernel
theorem dX12_copy_13 : decode cX12_copy 13 = .ok (.iastore, 1) := by decide +kernel
theorem dX12_copy_14 : decode cX12_copy 14 = .ok (.iinc 2 1, 3) := by decide +kernel
theorem dX12_copy_17 : decode cX12_copy 17 = .ok (.goto (-15), 3) := by decide +kernel
theorem dX12_copy_20 : decode cX12_copy 20 = .ok (.aload_n 1, 1) := by decide +kernel
theorem dX12_copy_21 : decode cX12_copy 21 = .ok (.bipush 36, 2) := by decide +kernel
theorem dX12_copy_23 : decode cX12_copy 23 = .ok (.iconst 0, 1) := by decide +kernel
theorem dX12_copy_24 : decode cX12_copy 24 = .ok (.iastore, 1) := by decide +kernel
theorem dX12_copy_25 : decode cX12_copy 25 = .ok (.return_, 1) := by decide +kernel
theorem dX12_isDish_0 : decode cX12_isDish 0 = .ok (.iload_n 1, 1) := by decide +kernel
theorem dX12_isDish_1 : decode cX12_isDish 1 = .ok (.ifCond .lt 15, 3) := by decide +kernel
theorem dX12_isDish_4 : decode cX12_isDish 4 = .ok (.iload_n 1, 1) := by decide +kernel
theorem dX12_isDish_5 : decode cX12_isDish 5 = .ok (.aload_n 0, 1) := by decide +kernel
theorem dX12_isDish_6 : decode cX12_isDish 6 = .ok (.getfield 284, 3) := by decide +kernel
theorem dX12_isDish_9 : decode cX12_isDish 9 = .ok (.if_icmp .ge 7, 3) := by decide +kernel
theorem dX12_isDish_12 : decode cX12_isDish 12 = .ok (.iconst 1, 1) := by decide +kernel
theorem dX12_isDish_13 : decode cX12_isDish 13 = .ok (.goto 4, 3) := by decide +kernel
theorem dX12_isDish_16 : decode cX12_isDish 16 = .ok (.iconst 0, 1) := by decide +kernel
theorem dX12_isDish_17 : decode cX12_isDish 17 = .ok (.ireturn, 1) := by decide +kernel
theorem dX12_isGuest_0 : decode cX12_isGuest 0 = .ok (.iload_n 1, 1) := by decide +kernel
theorem dX12_isGuest_1 : decode cX12_isGuest 1 = .ok (.ifCond .lt 15, 3) := by decide +kernel
theorem dX12_isGuest_4 : decode cX12_isGuest 4 = .ok (.iload_n 1, 1) := by decide +kernel
theorem dX12_isGuest_5 : decode cX12_isGuest 5 = .ok (.aload_n 0, 1) := by decide +kernel
theorem dX12_isGuest_6 : decode cX12_isGuest 6 = .ok (.getfield 287, 3) := by decide +kernel
theorem dX12_isGuest_9 : decode cX12_isGuest 9 = .ok (.if_icmp .ge 7, 3) := by decide +kernel
theorem dX12_isGuest_12 : decode cX12_isGuest 12 = .ok (.iconst 1, 1) := by decide +kernel
theorem dX12_isGuest_13 : decode cX12_isGuest 13 = .ok (.goto 4, 3) := by decide +kernel
theorem dX12_isGuest_16 : decode cX12_isGuest 16 = .ok (.iconst 0, 1) := by decide +kernel
theorem dX12_isGuest_17 : decode cX12_isGuest 17 = .ok (.ireturn, 1) := by decide +kernel
theorem dX12_comes_0 : decode cX12_comes 0 = .ok (.aload_n 0, 1) := by decide +kernel
theorem dX12_comes_1 : decode cX12_comes 1 = .ok (.getfield 49, 3) := by decide +kernel
theorem dX12_comes_4 : decode cX12_comes 4 = .ok (.iconst 4, 1) := by decide +kernel
theorem dX12_comes_5 : decode cX12_comes 5 = .ok (.iload_n 1, 1) := by decide +kernel
theorem dX12_comes_6 : decode cX12_comes 6 = .ok (.imul, 1) := by decide +kernel
theorem dX12_comes_7 : decode cX12_comes 7 = .ok (.iaload, 1) := by decide +kernel
theorem dX12_comes_8 : decode cX12_comes 8 = .ok (.ireturn, 1) := by decide +kernel
theorem dX12_pays_0 : decode cX12_pays 0 = .ok (.aload_n 0, 1) := by decide +kernel
theorem dX12_pays_1 : decode cX12_pays 1 = .ok (.getfield 49, 3) := by decide +kernel
theorem dX12_pays_4 : decode cX12_pays 4 = .ok (.iconst 4, 1) := by decide +kernel
theorem dX12_pays_5 : decode cX12_pays 5 = .ok (.iload_n 1, 1) := by decide +kernel
theorem dX12_pays_6 : decode cX12_pays 6 = .ok (.imul, 1) := by decide +kernel
theorem dX12_pays_7 : decode cX12_pays 7 = .ok (.iconst 3, 1) := by decide +kernel
theorem dX12_pays_8 : decode cX12_pays 8 = .ok (.iadd, 1) := by decide +kernel
theorem dX12_pays_9 : decode cX12_pays 9 = .ok (.iaload, 1) := by decide +kernel
theorem dX12_pays_10 : decode cX12_pays 10 = .ok (.ireturn, 1) := by decide +kernel
theorem dX12_kindOf_0 : decode cX12_kindOf 0 = .ok (.aload_n 0, 1) := by decide +kernel
theorem dX12_kindOf_1 : decode cX12_kindOf 1 = .ok (.getfield 43, 3) := by decide +kernel
theorem dX12_kindOf_4 : decode cX12_kindOf 4 = .ok (.iconst 3, 1) := by decide +kernel
theorem dX12_kindOf_5 : decode cX12_kindOf 5 = .ok (.iload_n 1, 1) := by decide +kernel
theorem dX12_kindOf_6 : decode cX12_kindOf 6 = .ok (.imul, 1) := by decide +kernel
theorem dX12_kindOf_7 : decode cX12_kindOf 7 = .ok (.iconst 2, 1) := by decide +kernel
theorem dX12_kindOf_8 : decode cX12_kindOf 8 = .ok (.iadd, 1) := by decide +kernel
theorem dX12_kindOf_9 : decode cX12_kindOf 9 = .ok (.iaload, 1) := by decide +kernel
theorem dX12_kindOf_10 : decode cX12_kindOf 10 = .ok (.ireturn, 1) := by decide +kernel
theorem dX12_isThere_0 : decode cX12_isThere 0 = .ok (.aload_n 1, 1) := by decide +kernel
theorem dX12_isThere_1 : decode cX12_isThere 1 = .ok (.iconst 4, 1) := by decide +kernel
theorem dX12_isThere_2 : decode cX12_isThere 2 = .ok (.iload_n 2, 1) := by decide +kernel
theorem dX12_isThere_3 : decode cX12_isThere 3 = .ok (.imul, 1) := by decide +kernel
theorem dX12_isThere_4 : decode cX12_isThere 4 = .ok (.iconst 3, 1) := by decide +kernel
theorem dX12_isThere_5 : decode cX12_isThere 5 = .ok (.iadd, 1) := by decide +kernel
theorem dX12_isThere_6 : decode cX12_isThere 6 = .ok (.iaload, 1) := by decide +kernel
theorem dX12_isThere_7 : decode cX12_isThere 7 = .ok (.ifCond .ne 40, 3) := by decide +kernel
theorem dX12_isThere_10 : decode cX12_isThere 10 = .ok (.aload_n 1, 1) := by decide +kernel
theorem dX12_isThere_11 : decode cX12_isThere 11 = .ok (.bipush 35, 2) := by decide +kernel
theorem dX12_isThere_13 : decode cX12_isThere 13 = .ok (.iaload, 1) := by decide +kernel
theorem dX12_isThere_14 : decode cX12_isThere 14 = .ok (.i2l, 1) := by decide +kernel
theorem dX12_isThere_15 : decode cX12_isThere 15 = .ok (.aload_n 0, 1) := by decide +kernel
theorem dX12_isThere_16 : decode cX12_isThere 16 = .ok (.iload_n 2, 1) := by decide +kernel
theorem dX12_isThere_17 : decode cX12_isThere 17 = .ok (.invokevirtual 299, 3) := by decide +kernel
theorem dX12_isThere_20 : decode cX12_isThere 20 = .ok (.i2l, 1) := by decide +kernel
theorem dX12_isThere_21 : decode cX12_isThere 21 = .ok (.aload_n 0, 1) := by decide +kernel
theorem dX12_isThere_22 : decode cX12_isThere 22 = .ok (.iload_n 2, 1) := by decide +kernel
theorem dX12_isThere_23 : decode cX12_isThere 23 = .ok (.invokevirtual 299, 3) := by decide +kernel
theorem dX12_isThere_26 : decode cX12_isThere 26 = .ok (.aload_n 1, 1) := by decide +kernel
theorem dX12_isThere_27 : decode cX12_isThere 27 = .ok (.iconst 4, 1) := by decide +kernel
theorem dX12_isThere_28 : decode cX12_isThere 28 = .ok (.iload_n 2, 1) := by decide +kernel
theorem dX12_isThere_29 : decode cX12_isThere 29 = .ok (.imul, 1) := by decide +kernel
theorem dX12_isThere_30 : decode cX12_isThere 30 = .ok (.iconst 0, 1) := by decide +kernel
theorem dX12_isThere_31 : decode cX12_isThere 31 = .ok (.iadd, 1) := by decide +kernel
theorem dX12_isThere_32 : decode cX12_isThere 32 = .ok (.iaload, 1) := by decide +kernel
theorem dX12_isThere_33 : decode cX12_isThere 33 = .ok (.iadd, 1) := by decide +kernel
theorem dX12_isThere_34 : decode cX12_isThere 34 = .ok (.iconst 1, 1) := by decide +kernel
theorem dX12_isThere_35 : decode cX12_isThere 35 = .ok (.isub, 1) := by decide +kernel
theorem dX12_isThere_36 : decode cX12_isThere 36 = .ok (.i2l, 1) := by decide +kernel
theorem dX12_isThere_37 : decode cX12_isThere 37 = .ok (.invokestatic 213, 3) := by decide +kernel
theorem dX12_isThere_40 : decode cX12_isThere 40 = .ok (.ifCond .eq 7, 3) := by decide +kernel
theorem dX12_isThere_43 : decode cX12_isThere 43 = .ok (.iconst 1, 1) := by decide +kernel
theorem dX12_isThere_44 : decode cX12_isThere 44 = .ok (.goto 4, 3) := by decide +kernel
theorem dX12_isThere_47 : decode cX12_isThere 47 = .ok (.iconst 0, 1) := by decide +kernel
theorem dX12_isThere_48 : decode cX12_isThere 48 = .ok (.ireturn, 1) := by decide +kernel
theorem dX12_thereBits_0 : decode cX12_thereBits 0 = .ok (.iconst 0, 1) := by decide +kernel
theorem dX12_thereBits_1 : decode cX12_thereBits 1 = .ok (.istore_n 2, 1) := by decide +kernel
theorem dX12_thereBits_2 : decode cX12_thereBits 2 = .ok (.iconst 0, 1) := by decide +kernel
theorem dX12_thereBits_3 : decode cX12_thereBits 3 = .ok (.istore_n 3, 1) := by decide +kernel
theorem dX12_thereBits_4 : decode cX12_thereBits 4 = .ok (.iload_n 3, 1) := by decide +kernel
theorem dX12_thereBits_5 : decode cX12_thereBits 5 = .ok (.aload_n 0, 1) := by decide +kernel
theorem dX12_thereBits_6 : decode cX12_thereBits 6 = .ok (.getfield 287, 3) := by decide +kernel
theorem dX12_thereBits_9 : decode cX12_thereBits 9 = .ok (.if_icmp .ge 28, 3) := by decide +kernel
theorem dX12_thereBits_12 : decode cX12_thereBits 12 = .ok (.iload_n 2, 1) := by decide +kernel
theorem dX12_thereBits_13 : decode cX12_thereBits 13 = .ok (.aload_n 0, 1) := by decide +kernel
theorem dX12_thereBits_14 : decode cX12_thereBits 14 = .ok (.aload_n 1, 1) := by decide +kernel
theorem dX12_thereBits_15 : decode cX12_thereBits 15 = .ok (.iload_n 3, 1) := by decide +kernel
theorem dX12_thereBits_16 : decode cX12_thereBits 16 = .ok (.invokevirtual 302, 3) := by decide +kernel
theorem dX12_thereBits_19 : decode cX12_thereBits 19 = .ok (.ifCond .eq 9, 3) := by decide +kernel
theorem dX12_thereBits_22 : decode cX12_thereBits 22 = .ok (.iconst 1, 1) := by decide +kernel
theorem dX12_thereBits_23 : decode cX12_thereBits 23 = .ok (.iload_n 3, 1) := by decide +kernel
theorem dX12_thereBits_24 : decode cX12_thereBits 24 = .ok (.ishl, 1) := by decide +kernel
theorem dX12_thereBits_25 : decode cX12_thereBits 25 = .ok (.goto 4, 3) := by decide +kernel
theorem dX12_thereBits_28 : decode cX12_thereBits 28 = .ok (.iconst 0, 1) := by decide +kernel
theorem dX12_thereBits_29 : decode cX12_thereBits 29 = .ok (.ior, 1) := by decide +kernel
theorem dX12_thereBits_30 : decode cX12_thereBits 30 = .ok (.istore_n 2, 1) := by decide +kernel
theorem dX12_thereBits_31 : decode cX12_thereBits 31 = .ok (.iinc 3 1, 3) := by decide +kernel
theorem dX12_thereBits_34 : decode cX12_thereBits 34 = .ok (.goto (-30), 3) := by decide +kernel
theorem dX12_thereBits_37 : decode cX12_thereBits 37 = .ok (.iload_n 2, 1) := by decide +kernel
theorem dX12_thereBits_38 : decode cX12_thereBits 38 = .ok (.ireturn, 1) := by decide +kernel
theorem dX12_joyOf_0 : decode cX12_joyOf 0 = .ok (.iload 4, 2) := by decide +kernel
theorem dX12_joyOf_2 : decode cX12_joyOf 2 = .ok (.ifCond .ne 8, 3) := by decide +kernel
theorem dX12_joyOf_5 : decode cX12_joyOf 5 = .ok (.bipush (-2), 2) := by decide +kernel
theorem dX12_joyOf_7 : decode cX12_joyOf 7 = .ok (.goto 16, 3) := by decide +kernel
theorem dX12_joyOf_10 : decode cX12_joyOf 10 = .ok (.iload_n 2, 1) := by decide +kernel
theorem dX12_joyOf_11 : decode cX12_joyOf 11 = .ok (.iconst 3, 1) := by decide +kernel
theorem dX12_joyOf_12 : decode cX12_joyOf 12 = .ok (.idiv, 1) := by decide +kernel
theorem dX12_joyOf_13 : decode cX12_joyOf 13 = .ok (.iload_n 3, 1) := by decide +kernel
theorem dX12_joyOf_14 : decode cX12_joyOf 14 = .ok (.ifCond .eq 7, 3) := by decide +kernel
theorem dX12_joyOf_17 : decode cX12_joyOf 17 = .ok (.iconst 3, 1) := by decide +kernel
theorem dX12_joyOf_18 : decode cX12_joyOf 18 = .ok (.goto 4, 3) := by decide +kernel
theorem dX12_joyOf_21 : decode cX12_joyOf 21 = .ok (.iconst 0, 1) := by decide +kernel
theorem dX12_joyOf_22 : decode cX12_joyOf 22 = .ok (.iadd, 1) := by decide +kernel
theorem dX12_joyOf_23 : decode cX12_joyOf 23 = .ok (.istore 7, 2) := by decide +kernel
theorem dX12_joyOf_25 : decode cX12_joyOf 25 = .ok (.aload_n 0, 1) := by decide +kernel
theorem dX12_joyOf_26 : decode cX12_joyOf 26 = .ok (.getfield 67, 3) := by decide +kernel
theorem dX12_joyOf_29 : decode cX12_joyOf 29 = .ok (.iconst (-1), 1) := by decide +kernel
theorem dX12_joyOf_30 : decode cX12_joyOf 30 = .ok (.if_icmp .eq 97, 3) := by decide +kernel
theorem dX12_joyOf_33 : decode cX12_joyOf 33 = .ok (.aload_n 0, 1) := by decide +kernel
theorem dX12_joyOf_34 : decode cX12_joyOf 34 = .ok (.getfield 20, 3) := by decide +kernel
theorem dX12_joyOf_37 : decode cX12_joyOf 37 = .ok (.bipush 119, 2) := by decide +kernel
theorem dX12_joyOf_39 : decode cX12_joyOf 39 = .ok (.iload_n 2, 1) := by decide +kernel
theorem dX12_joyOf_40 : decode cX12_joyOf 40 = .ok (.iastore, 1) := by decide +kernel
theorem dX12_joyOf_41 : decode cX12_joyOf 41 = .ok (.aload_n 0, 1) := by decide +kernel
theorem dX12_joyOf_42 : decode cX12_joyOf 42 = .ok (.getfield 20, 3) := by decide +kernel
theorem dX12_joyOf_45 : decode cX12_joyOf 45 = .ok (.bipush 108, 2) := by decide +kernel
theorem dX12_joyOf_47 : decode cX12_joyOf 47 = .ok (.iload_n 3, 1) := by decide +kernel
theorem dX12_joyOf_48 : decode cX12_joyOf 48 = .ok (.ifCond .eq 7, 3) := by decide +kernel
theorem dX12_joyOf_51 : decode cX12_joyOf 51 = .ok (.iconst 1, 1) := by decide +kernel
theorem dX12_joyOf_52 : decode cX12_joyOf 52 = .ok (.goto 4, 3) := by decide +kernel
theorem dX12_joyOf_55 : decode cX12_joyOf 55 = .ok (.iconst 0, 1) := by decide +kernel
theorem dX12_joyOf_56 : decode cX12_joyOf 56 = .ok (.iastore, 1) := by decide +kernel
theorem dX12_joyOf_57 : decode cX12_joyOf 57 = .ok (.aload_n 0, 1) := by decide +kernel
theorem dX12_joyOf_58 : decode cX12_joyOf 58 = .ok (.getfield 20, 3) := by decide +kernel
theorem dX12_joyOf_61 : decode cX12_joyOf 61 = .ok (.bipush 102, 2) := by decide +kernel
theorem dX12_joyOf_63 : decode cX12_joyOf 63 = .ok (.iload 4, 2) := by decide +kernel
theorem dX12_joyOf_65 : decode cX12_joyOf 65 = .ok (.iastore, 1) := by decide +kernel
theorem dX12_joyOf_66 : decode cX12_joyOf 66 = .ok (.aload_n 0, 1) := by decide +kernel
theorem dX12_joyOf_67 : decode cX12_joyOf 67 = .ok (.getfield 20, 3) := by decide +kernel
theorem dX12_joyOf_70 : decode cX12_joyOf 70 = .ok (.bipush 110, 2) := by decide +kernel
theorem dX12_joyOf_72 : decode cX12_joyOf 72 = .ok (.iload 5, 2) := by decide +kernel
theorem dX12_joyOf_74 : decode cX12_joyOf 74 = .ok (.iastore, 1) := by decide +kernel
theorem dX12_joyOf_75 : decode cX12_joyOf 75 = .ok (.aload_n 0, 1) := by decide +kernel
theorem dX12_joyOf_76 : decode cX12_joyOf 76 = .ok (.getfield 20, 3) := by decide +kernel
theorem dX12_joyOf_79 : decode cX12_joyOf 79 = .ok (.bipush 112, 2) := by decide +kernel
theorem dX12_joyOf_81 : decode cX12_joyOf 81 = .ok (.aload_n 0, 1) := by decide +kernel
theorem dX12_joyOf_82 : decode cX12_joyOf 82 = .ok (.iload_n 1, 1) := by decide +kernel
theorem dX12_joyOf_83 : decode cX12_joyOf 83 = .ok (.invokevirtual 306, 3) := by decide +kernel
theorem dX12_joyOf_86 : decode cX12_joyOf 86 = .ok (.iastore, 1) := by decide +kernel
theorem dX12_joyOf_87 : decode cX12_joyOf 87 = .ok (.aload_n 0, 1) := by decide +kernel
theorem dX12_joyOf_88 : decode cX12_joyOf 88 = .ok (.getfield 20, 3) := by decide +kernel
theorem dX12_joyOf_91 : decode cX12_joyOf 91 = .ok (.bipush 100, 2) := by decide +kernel
theorem dX12_joyOf_93 : decode cX12_joyOf 93 = .ok (.iload 6, 2) := by decide +kernel
theorem dX12_joyOf_95 : decode cX12_joyOf 95 = .ok (.iastore, 1) := by decide +kernel
theorem dX12_joyOf_96 : decode cX12_joyOf 96 = .ok (.aload_n 0, 1) := by decide +kernel
theorem dX12_joyOf_97 : decode cX12_joyOf 97 = .ok (.aload_n 0, 1) := by decide +kernel
theorem dX12_joyOf_98 : decode cX12_joyOf 98 = .ok (.getfield 13, 3) := by decide +kernel
theorem dX12_joyOf_101 : decode cX12_joyOf 101 = .ok (.sipush 240, 3) := by decide +kernel
theorem dX12_joyOf_104 : decode cX12_joyOf 104 = .ok (.aload_n 0, 1) := by decide +kernel
theorem dX12_joyOf_105 : decode cX12_joyOf 105 = .ok (.getfield 67, 3) := by decide +kernel
theorem dX12_joyOf_108 : decode cX12_joyOf 108 = .ok (.imul, 1) := by decide +kernel
theorem dX12_joyOf_109 : decode cX12_joyOf 109 = .ok (.aload_n 0, 1) := by decide +kernel
theorem dX12_joyOf_110 : decode cX12_joyOf 110 = .ok (.getfield 16, 3) := by decide +kernel
theorem dX12_joyOf_113 : decode cX12_joyOf 113 = .ok (.aload_n 0, 1) := by decide +kernel
theorem dX12_joyOf_114 : decode cX12_joyOf 114 = .ok (.getfield 67, 3) := by decide +kernel
theorem dX12_joyOf_117 : decode cX12_joyOf 117 = .ok (.iaload, 1) := by decide +kernel
theorem dX12_joyOf_118 : decode cX12_joyOf 118 = .ok (.invokevirtual 270, 3) := by decide +kernel
theorem dX12_joyOf_121 : decode cX12_joyOf 121 = .ok (.aload_n 0, 1) := by decide +kernel
theorem dX12_joyOf_122 : decode cX12_joyOf 122 = .ok (.getfield 200, 3) := by decide +kernel
theorem dX12_joyOf_125 : decode cX12_joyOf 125 = .ok (.istore 7, 2) := by decide +kernel
theorem dX12_joyOf_127 : decode cX12_joyOf 127 = .ok (.bipush (-9), 2) := by decide +kernel
theorem dX12_joyOf_129 : decode cX12_joyOf 129 = .ok (.bipush 20, 2) := by decide +kernel
theorem dX12_joyOf_131 : decode cX12_joyOf 131 = .ok (.iload 7, 2) := by decide +kernel
theorem dX12_joyOf_133 : decode cX12_joyOf 133 = .ok (.invokestatic 309, 3) := by decide +kernel
theorem dX12_joyOf_136 : decode cX12_joyOf 136 = .ok (.invokestatic 311, 3) := by decide +kernel
theorem dX12_joyOf_139 : decode cX12_joyOf 139 = .ok (.ireturn, 1) := by decide +kernel
theorem dX12_cooks_0 : decode cX12_cooks 0 = .ok (.aload_n 1, 1) := by decide +kernel
theorem dX12_cooks_1 : decode cX12_cooks 1 = .ok (.bipush 34, 2) := by decide +kernel
theorem dX12_cooks_3 : decode cX12_cooks 3 = .ok (.iaload, 1) := by decide +kernel
theorem dX12_cooks_4 : decode cX12_cooks 4 = .ok (.ifCond .le 12, 3) := by decide +kernel
theorem dX12_cooks_7 : decode cX12_cooks 7 = .ok (.aload_n 1, 1) := by decide +kernel
theorem dX12_cooks_8 : decode cX12_cooks 8 = .ok (.bipush 34, 2) := by decide +kernel
theorem dX12_cooks_10 : decode cX12_cooks 10 = .ok (.iaload, 1) := by decide +kernel
theorem dX12_cooks_11 : decode cX12_cooks 11 = .ok (.iconst 1, 1) := by decide +kernel
theorem dX12_cooks_12 : decode cX12_cooks 12 = .ok (.isub, 1) := by decide +kernel
theorem dX12_cooks_13 : decode cX12_cooks 13 = .ok (.goto 12, 3) := by decide +kernel
theorem dX12_cooks_16 : decode cX12_cooks 16 = .ok (.aload_n 1, 1) := by decide +kernel
theorem dX12_cooks_17 : decode cX12_cooks 17 = .ok (.bipush 35, 2) := by decide +kernel
theorem dX12_cooks_19 : decode cX12_cooks 19 = .ok (.iaload, 1) := by decide +kernel
theorem dX12_cooks_20 : decode cX12_cooks 20 = .ok (.aload_n 0, 1) := by decide +kernel
theorem dX12_cooks_21 : decode cX12_cooks 21 = .ok (.getfield 284, 3) := by decide +kernel
theorem dX12_cooks_24 : decode cX12_cooks 24 = .ok (.irem, 1) := by decide +kernel
theorem dX12_cooks_25 : decode cX12_cooks 25 = .ok (.ireturn, 1) := by decide +kernel
theorem dX12_serves_0 : decode cX12_serves 0 = .ok (.aload_n 1, 1) := by decide +kernel
theorem dX12_serves_1 : decode cX12_serves 1 = .ok (.bipush 35, 2) := by decide +kernel
theorem dX12_serves_3 : decode cX12_serves 3 = .ok (.iaload, 1) := by decide +kernel
theorem dX12_serves_4 : decode cX12_serves 4 = .ok (.aload_n 1, 1) := by decide +kernel
theorem dX12_serves_5 : decode cX12_serves 5 = .ok (.bipush 32, 2) := by decide +kernel
theorem dX12_serves_7 : decode cX12_serves 7 = .ok (.iaload, 1) := by decide +kernel
theorem dX12_serves_8 : decode cX12_serves 8 = .ok (.isub, 1) := by decide +kernel
theorem dX12_serves_9 : decode cX12_serves 9 = .ok (.istore_n 2, 1) := by decide +kernel
theorem dX12_serves_10 : decode cX12_serves 10 = .ok (.bipush 24, 2) := by decide +kernel
theorem dX12_serves_12 : decode cX12_serves 12 = .ok (.iconst 2, 1) := by decide +kernel
theorem dX12_serves_13 : decode cX12_serves 13 = .ok (.iconst 0, 1) := by decide +kernel
theorem dX12_serves_14 : decode cX12_serves 14 = .ok (.iload_n 2, 1) := by decide +kernel
theorem dX12_serves_15 : decode cX12_serves 15 = .ok (.invokestatic 311, 3) := by decide +kernel
theorem dX12_serves_18 : decode cX12_serves 18 = .ok (.iconst 4, 1) := by decide +kernel
theorem dX12_serves_19 : decode cX12_serves 19 = .ok (.irem, 1) := by decide +kernel
theorem dX12_serves_20 : decode cX12_serves 20 = .ok (.imul, 1) := by decide +kernel
theorem dX12_serves_21 : decode cX12_serves 21 = .ok (.iadd, 1) := by decide +kernel
theorem dX12_serves_22 : decode cX12_serves 22 = .ok (.istore_n 3, 1) := by decide +kernel
theorem dX12_serves_23 : decode cX12_serves 23 = .ok (.aload_n 0, 1) := by decide +kernel
theorem dX12_serves_24 : decode cX12_serves 24 = .ok (.iload_n 2, 1) := by decide +kernel
theorem dX12_serves_25 : decode cX12_serves 25 = .ok (.ifCond .ge 7, 3) := by decide +kernel
theorem dX12_serves_28 : decode cX12_serves 28 = .ok (.iconst (-1), 1) := by decide +kernel
theorem dX12_serves_29 : decode cX12_serves 29 = .ok (.goto 6, 3) := by decide +kernel
theorem dX12_serves_32 : decode cX12_serves 32 = .ok (.aload_n 1, 1) := by decide +kernel
theorem dX12_serves_33 : decode cX12_serves 33 = .ok (.iload_n 3, 1) := by decide +kernel
theorem dX12_serves_34 : decode cX12_serves 34 = .ok (.iaload, 1) := by decide +kernel
theorem dX12_serves_35 : decode cX12_serves 35 = .ok (.putfield 313, 3) := by decide +kernel
theorem dX12_serves_38 : decode cX12_serves 38 = .ok (.aload_n 0, 1) := by decide +kernel
theorem dX12_serves_39 : decode cX12_serves 39 = .ok (.iload_n 2, 1) := by decide +kernel
theorem dX12_serves_40 : decode cX12_serves 40 = .ok (.ifCond .ge 7, 3) := by decide +kernel
theorem dX12_serves_43 : decode cX12_serves 43 = .ok (.iconst 0, 1) := by decide +kernel
theorem dX12_serves_44 : decode cX12_serves 44 = .ok (.goto 8, 3) := by decide +kernel
theorem dX12_serves_47 : decode cX12_serves 47 = .ok (.aload_n 1, 1) := by decide +kernel
theorem dX12_serves_48 : decode cX12_serves 48 = .ok (.iload_n 3, 1) := by decide +kernel
theorem dX12_serves_49 : decode cX12_serves 49 = .ok (.iconst 1, 1) := by decide +kernel
theorem dX12_serves_50 : decode cX12_serves 50 = .ok (.iadd, 1) := by decide +kernel
theorem dX12_serves_51 : decode cX12_serves 51 = .ok (.iaload, 1) := by decide +kernel
theorem dX12_serves_52 : decode cX12_serves 52 = .ok (.putfield 316, 3) := by decide +kernel
theorem dX12_serves_55 : decode cX12_serves 55 = .ok (.aload_n 0, 1) := by decide +kernel
theorem dX12_serves_56 : decode cX12_serves 56 = .ok (.iload_n 2, 1) := by decide +kernel
theorem dX12_serves_57 : decode cX12_serves 57 = .ok (.ifCond .ge 7, 3) := by decide +kernel
theorem dX12_serves_60 : decode cX12_serves 60 = .ok (.iconst 0, 1) := by decide +kernel
theorem dX12_serves_61 : decode cX12_serves 61 = .ok (.goto 30, 3) := by decide +kernel
theorem dX12_serves_64 : decode cX12_serves 64 = .ok (.iconst 0, 1) := by decide +kernel
theorem dX12_serves_65 : decode cX12_serves 65 = .ok (.aload_n 0, 1) := by decide +kernel
theorem dX12_serves_66 : decode cX12_serves 66 = .ok (.getfield 43, 3) := by decide +kernel
theorem dX12_serves_69 : decode cX12_serves 69 = .ok (.iconst 3, 1) := by decide +kernel
theorem dX12_serves_70 : decode cX12_serves 70 = .ok (.aload_n 0, 1) := by decide +kernel
theorem dX12_serves_71 : decode cX12_serves 71 = .ok (.getfield 313, 3) := by decide +kernel
theorem dX12_serves_74 : decode cX12_serves 74 = .ok (.imul, 1) := by decide +kernel
theorem dX12_serves_75 : decode cX12_serves 75 = .ok (.iaload, 1) := by decide +kernel
theorem dX12_serves_76 : decode cX12_serves 76 = .ok (.aload_n 0, 1) := by decide +kernel
theorem dX12_serves_77 : decode cX12_serves 77 = .ok (.getfield 37, 3) := by decide +kernel
theorem dX12_serves_80 : decode cX12_serves 80 = .ok (.iconst 1, 1) := by decide +kernel
theorem dX12_serves_81 : decode cX12_serves 81 = .ok (.iaload, 1) := by decide +kernel
theorem dX12_serves_82 : decode cX12_serves 82 = .ok (.aload_n 1, 1) := by decide +kernel
theorem dX12_serves_83 : decode cX12_serves 83 = .ok (.bipush 32, 2) := by decide +kernel
theorem dX12_serves_85 : decode cX12_serves 85 = .ok (.iaload, 1) := by decide +kernel
theorem dX12_serves_86 : decode cX12_serves 86 = .ok (.imul, 1) := by decide +kernel
theorem dX12_serves_87 : decode cX12_serves 87 = .ok (.isub, 1) := by decide +kernel
theorem dX12_serves_88 : decode cX12_serves 88 = .ok (.invokestatic 311, 3) := by decide +kernel
theorem dX12_serves_91 : decode cX12_serves 91 = .ok (.putfield 319, 3) := by decide +kernel
theorem dX12_serves_94 : decode cX12_serves 94 = .ok (.return_, 1) := by decide +kernel
theorem dX12_goTable_0 : decode cX12_goTable 0 = .ok (.bipush 24, 2) := by decide +kernel
theorem dX12_goTable_2 : decode cX12_goTable 2 = .ok (.iconst 2, 1) := by decide +kernel
theorem dX12_goTable_3 : decode cX12_goTable 3 = .ok (.aload_n 1, 1) := by decide +kernel
theorem dX12_goTable_4 : decode cX12_goTable 4 = .ok (.bipush 35, 2) := by decide +kernel
theorem dX12_goTable_6 : decode cX12_goTable 6 = .ok (.iaload, 1) := by decide +kernel
theorem dX12_goTable_7 : decode cX12_goTable 7 = .ok (.iconst 4, 1) := by decide +kernel
theorem dX12_goTable_8 : decode cX12_goTable 8 = .ok (.irem, 1) := by decide +kernel
theorem dX12_goTable_9 : decode cX12_goTable 9 = .ok (.imul, 1) := by decide +kernel
theorem dX12_goTable_10 : decode cX12_goTable 10 = .ok (.iadd, 1) := by decide +kernel
theorem dX12_goTable_11 : decode cX12_goTable 11 = .ok (.istore_n 2, 1) := by decide +kernel
theorem dX12_goTable_12 : decode cX12_goTable 12 = .ok (.aload_n 1, 1) := by decide +kernel
theorem dX12_goTable_13 : decode cX12_goTable 13 = .ok (.iload_n 2, 1) := by decide +kernel
theorem dX12_goTable_14 : decode cX12_goTable 14 = .ok (.aload_n 0, 1) := by decide +kernel
theorem dX12_goTable_15 : decode cX12_goTable 15 = .ok (.aload_n 1, 1) := by decide +kernel
theorem dX12_goTable_16 : decode cX12_goTable 16 = .ok (.invokevirtual 322, 3) := by decide +kernel
theorem dX12_goTable_19 : decode cX12_goTable 19 = .ok (.iastore, 1) := by decide +kernel
theorem dX12_goTable_20 : decode cX12_goTable 20 = .ok (.aload_n 1, 1) := by decide +kernel
theorem dX12_goTable_21 : decode cX12_goTable 21 = .ok (.iload_n 2, 1) := by decide +kernel
theorem dX12_goTable_22 : decode cX12_goTable 22 = .ok (.iconst 1, 1) := by decide +kernel
theorem dX12_goTable_23 : decode cX12_goTable 23 = .ok (.iadd, 1) := by decide +kernel
theorem dX12_goTable_24 : decode cX12_goTable 24 = .ok (.aload_n 0, 1) := by decide +kernel
theorem dX12_goTable_25 : decode cX12_goTable 25 = .ok (.aload_n 1, 1) := by decide +kernel
theorem dX12_goTable_26 : decode cX12_goTable 26 = .ok (.invokevirtual 326, 3) := by decide +kernel
theorem dX12_goTable_29 : decode cX12_goTable 29 = .ok (.invokestatic 329, 3) := by decide +kernel
theorem dX12_goTable_32 : decode cX12_goTable 32 = .ok (.iastore, 1) := by decide +kernel
theorem dX12_goTable_33 : decode cX12_goTable 33 = .ok (.aload_n 0, 1) := by decide +kernel
theorem dX12_goTable_34 : decode cX12_goTable 34 = .ok (.aload_n 1, 1) := by decide +kernel
theorem dX12_goTable_35 : decode cX12_goTable 35 = .ok (.invokevirtual 334, 3) := by decide +kernel
theorem dX12_goTable_38 : decode cX12_goTable 38 = .ok (.aload_n 0, 1) := by decide +kernel
theorem dX12_goTable_39 : decode cX12_goTable 39 = .ok (.getfield 316, 3) := by decide +kernel
theorem dX12_goTable_42 : decode cX12_goTable 42 = .ok (.istore_n 3, 1) := by decide +kernel
theorem dX12_goTable_43 : decode cX12_goTable 43 = .ok (.aload_n 0, 1) := by decide +kernel
theorem dX12_goTable_44 : decode cX12_goTable 44 = .ok (.aload_n 1, 1) := by decide +kernel
theorem dX12_goTable_45 : decode cX12_goTable 45 = .ok (.invokevirtual 326, 3) := by decide +kernel
theorem dX12_goTable_48 : decode cX12_goTable 48 = .ok (.iconst (-1), 1) := by decide +kernel
theorem dX12_goTable_49 : decode cX12_goTable 49 = .ok (.ixor, 1) := by decide +kernel
theorem dX12_goTable_50 : decode cX12_goTable 50 = .ok (.istore 4, 2) := by decide +kernel
theorem dX12_goTable_52 : decode cX12_goTable 52 = .ok (.iconst 0, 1) := by decide +kernel
theorem dX12_goTable_53 : decode cX12_goTable 53 = .ok (.istore 5, 2) := by decide +kernel
theorem dX12_goTable_55 : decode cX12_goTable 55 = .ok (.iload 5, 2) := by decide +kernel
theorem dX12_goTable_57 : decode cX12_goTable 57 = .ok (.bipush 6, 2) := by decide +kernel
theorem dX12_goTable_59 : decode cX12_goTable 59 = .ok (.if_icmp .ge 17, 3) := by decide +kernel
theorem dX12_goTable_62 : decode cX12_goTable 62 = .ok (.aload_n 0, 1) := by decide +kernel
theorem dX12_goTable_63 : decode cX12_goTable 63 = .ok (.getfield 74, 3) := by decide +kernel
theorem dX12_goTable_66 : decode cX12_goTable 66 = .ok (.iload 5, 2) := by decide +kernel
theorem dX12_goTable_68 : decode cX12_goTable 68 = .ok (.iconst 0, 1) := by decide +kernel
theorem dX12_goTable_69 : decode cX12_goTable 69 = .ok (.iastore, 1) := by decide +kernel
theorem dX12_goTable_70 : decode cX12_goTable 70 = .ok (.iinc 5 1, 3) := by decide +kernel
theorem dX12_goTable_73 : decode cX12_goTable 73 = .ok (.goto (-18), 3) := by decide +kernel
theorem dX12_goTable_76 : decode cX12_goTable 76 = .ok (.iconst 0, 1) := by decide +kernel
theorem dX12_goTable_77 : decode cX12_goTable 77 = .ok (.istore 5, 2) := by decide +kernel
theorem dX12_goTable_79 : decode cX12_goTable 79 = .ok (.iload 5, 2) := by decide +kernel
theorem dX12_goTable_81 : decode cX12_goTable 81 = .ok (.aload_n 0, 1) := by decide +kernel
theorem dX12_goTable_82 : decode cX12_goTable 82 = .ok (.getfield 287, 3) := by decide +kernel
theorem dX12_goTable_85 : decode cX12_goTable 85 = .ok (.if_icmp .ge 98, 3) := by decide +kernel
theorem dX12_goTable_88 : decode cX12_goTable 88 = .ok (.iconst (-1), 1) := by decide +kernel
theorem dX12_goTable_89 : decode cX12_goTable 89 = .ok (.istore 6, 2) := by decide +kernel
theorem dX12_goTable_91 : decode cX12_goTable 91 = .ok (.iconst 0, 1) := by decide +kernel
theorem dX12_goTable_92 : decode cX12_goTable 92 = .ok (.istore 7, 2) := by decide +kernel
theorem dX12_goTable_94 : decode cX12_goTable 94 = .ok (.iload 7, 2) := by decide +kernel
theorem dX12_goTable_96 : decode cX12_goTable 96 = .ok (.aload_n 0, 1) := by decide +kernel
theorem dX12_goTable_97 : decode cX12_goTable 97 = .ok (.getfield 287, 3) := by decide +kernel
theorem dX12_goTable_100 : decode cX12_goTable 100 = .ok (.if_icmp .ge 44, 3) := by decide +kernel
theorem dX12_goTable_103 : decode cX12_goTable 103 = .ok (.iload 4, 2) := by decide +kernel
theorem dX12_goTable_105 : decode cX12_goTable 105 = .ok (.iload 7, 2) := by decide +kernel
theorem dX12_goTable_107 : decode cX12_goTable 107 = .ok (.invokestatic 225, 3) := by decide +kernel
theorem dX12_goTable_110 : decode cX12_goTable 110 = .ok (.ifCond .ne 28, 3) := by decide +kernel
theorem dX12_goTable_113 : decode cX12_goTable 113 = .ok (.iload 6, 2) := by decide +kernel
theorem dX12_goTable_115 : decode cX12_goTable 115 = .ok (.iconst (-1), 1) := by decide +kernel
theorem dX12_goTable_116 : decode cX12_goTable 116 = .ok (.if_icmp .eq 18, 3) := by decide +kernel
theorem dX12_goTable_119 : decode cX12_goTable 119 = .ok (.aload_n 0, 1) := by decide +kernel
theorem dX12_goTable_120 : decode cX12_goTable 120 = .ok (.iload 7, 2) := by decide +kernel
theorem dX12_goTable_122 : decode cX12_goTable 122 = .ok (.invokevirtual 299, 3) := by decide +kernel
theorem dX12_goTable_125 : decode cX12_goTable 125 = .ok (.aload_n 0, 1) := by decide +kernel
theorem dX12_goTable_126 : decode cX12_goTable 126 = .ok (.iload 6, 2) := by decide +kernel
theorem dX12_goTable_128 : decode cX12_goTable 128 = .ok (.invokevirtual 299, 3) := by decide +kernel
theorem dX12_goTable_131 : decode cX12_goTable 131 = .ok (.if_icmp .ge 7, 3) := by decide +kernel
theorem dX12_goTable_134 : decode cX12_goTable 134 = .ok (.iload 7, 2) := by decide +kernel
theorem dX12_goTable_136 : decode cX12_goTable 136 = .ok (.istore 6, 2) := by decide +kernel
theorem dX12_goTable_138 : decode cX12_goTable 138 = .ok (.iinc 7 1, 3) := by decide +kernel
theorem dX12_goTable_141 : decode cX12_goTable 141 = .ok (.goto (-47), 3) := by decide +kernel
theorem dX12_goTable_144 : decode cX12_goTable 144 = .ok (.iload 6, 2) := by decide +kernel
theorem dX12_goTable_146 : decode cX12_goTable 146 = .ok (.iconst (-1), 1) := by decide +kernel
theorem dX12_goTable_147 : decode cX12_goTable 147 = .ok (.if_icmp .eq 36, 3) := by decide +kernel
theorem dX12_goTable_150 : decode cX12_goTable 150 = .ok (.iload_n 3, 1) := by decide +kernel
theorem dX12_goTable_151 : decode cX12_goTable 151 = .ok (.ifCond .ne 6, 3) := by decide +kernel
theorem dX12_goTable_154 : decode cX12_goTable 154 = .ok (.goto 29, 3) := by decide +kernel
theorem dX12_goTable_157 : decode cX12_goTable 157 = .ok (.iload 4, 2) := by decide +kernel
theorem dX12_goTable_159 : decode cX12_goTable 159 = .ok (.iconst 1, 1) := by decide +kernel
theorem dX12_goTable_160 : decode cX12_goTable 160 = .ok (.iload 6, 2) := by decide +kernel
theorem dX12_goTable_162 : decode cX12_goTable 162 = .ok (.ishl, 1) := by decide +kernel
theorem dX12_goTable_163 : decode cX12_goTable 163 = .ok (.ior, 1) := by decide +kernel
theorem dX12_goTable_164 : decode cX12_goTable 164 = .ok (.istore 4, 2) := by decide +kernel
theorem dX12_goTable_166 : decode cX12_goTable 166 = .ok (.aload_n 0, 1) := by decide +kernel
theorem dX12_goTable_167 : decode cX12_goTable 167 = .ok (.getfield 74, 3) := by decide +kernel
theorem dX12_goTable_170 : decode cX12_goTable 170 = .ok (.iload 6, 2) := by decide +kernel
theorem dX12_goTable_172 : decode cX12_goTable 172 = .ok (.iconst 1, 1) := by decide +kernel
theorem dX12_goTable_173 : decode cX12_goTable 173 = .ok (.iastore, 1) := by decide +kernel
theorem dX12_goTable_174 : decode cX12_goTable 174 = .ok (.iinc 3 (-1), 3) := by decide +kernel
theorem dX12_goTable_177 : decode cX12_goTable 177 = .ok (.iinc 5 1, 3) := by decide +kernel
theorem dX12_goTable_180 : decode cX12_goTable 180 = .ok (.goto (-101), 3) := by decide +kernel
theorem dX12_goTable_183 : decode cX12_goTable 183 = .ok (.iconst 0, 1) := by decide +kernel
theorem dX12_goTable_184 : decode cX12_goTable 184 = .ok (.istore 5, 2) := by decide +kernel
theorem dX12_goTable_186 : decode cX12_goTable 186 = .ok (.iload 5, 2) := by decide +kernel
theorem dX12_goTable_188 : decode cX12_goTable 188 = .ok (.aload_n 0, 1) := by decide +kernel
theorem dX12_goTable_189 : decode cX12_goTable 189 = .ok (.getfield 287, 3) := by decide +kernel
theorem dX12_goTable_192 : decode cX12_goTable 192 = .ok (.if_icmp .ge 64, 3) := by decide +kernel
theorem dX12_goTable_195 : decode cX12_goTable 195 = .ok (.iload_n 3, 1) := by decide +kernel
theorem dX12_goTable_196 : decode cX12_goTable 196 = .ok (.ifCond .le 60, 3) := by decide +kernel
theorem dX12_goTable_199 : decode cX12_goTable 199 = .ok (.aload_n 0, 1) := by decide +kernel
theorem dX12_goTable_200 : decode cX12_goTable 200 = .ok (.aload_n 1, 1) := by decide +kernel
theorem dX12_goTable_201 : decode cX12_goTable 201 = .ok (.iload 5, 2) := by decide +kernel
theorem dX12_goTable_203 : decode cX12_goTable 203 = .ok (.invokevirtual 302, 3) := by decide +kernel
theorem dX12_goTable_206 : decode cX12_goTable 206 = .ok (.ifCond .eq 44, 3) := by decide +kernel
theorem dX12_goTable_209 : decode cX12_goTable 209 = .ok (.aload_n 1, 1) := by decide +kernel
theorem dX12_goTable_210 : decode cX12_goTable 210 = .ok (.bipush 35, 2) := by decide +kernel
theorem dX12_goTable_212 : decode cX12_goTable 212 = .ok (.iaload, 1) := by decide +kernel
theorem dX12_goTable_213 : decode cX12_goTable 213 = .ok (.aload_n 0, 1) := by decide +kernel
theorem dX12_goTable_214 : decode cX12_goTable 214 = .ok (.iload 5, 2) := by decide +kernel
theorem dX12_goTable_216 : decode cX12_goTable 216 = .ok (.invokevirtual 299, 3) := by decide +kernel
theorem dX12_goTable_219 : decode cX12_goTable 219 = .ok (.aload_n 1, 1) := by decide +kernel
theorem dX12_goTable_220 : decode cX12_goTable 220 = .ok (.iconst 4, 1) := by decide +kernel
theorem dX12_goTable_221 : decode cX12_goTable 221 = .ok (.iload 5, 2) := by decide +kernel
theorem dX12_goTable_223 : decode cX12_goTable 223 = .ok (.imul, 1) := by decide +kernel
theorem dX12_goTable_224 : decode cX12_goTable 224 = .ok (.iconst 0, 1) := by decide +kernel
theorem dX12_goTable_225 : decode cX12_goTable 225 = .ok (.iadd, 1) := by decide +kernel
theorem dX12_goTable_226 : decode cX12_goTable 226 = .ok (.iaload, 1) := by decide +kernel
theorem dX12_goTable_227 : decode cX12_goTable 227 = .ok (.iadd, 1) := by decide +kernel
theorem dX12_goTable_228 : decode cX12_goTable 228 = .ok (.iconst 1, 1) := by decide +kernel
theorem dX12_goTable_229 : decode cX12_goTable 229 = .ok (.isub, 1) := by decide +kernel
theorem dX12_goTable_230 : decode cX12_goTable 230 = .ok (.if_icmp .eq 6, 3) := by decide +kernel
theorem dX12_goTable_233 : decode cX12_goTable 233 = .ok (.goto 17, 3) := by decide +kernel
theorem dX12_goTable_236 : decode cX12_goTable 236 = .ok (.aload_n 0, 1) := by decide +kernel
theorem dX12_goTable_237 : decode cX12_goTable 237 = .ok (.getfield 74, 3) := by decide +kernel
theorem dX12_goTable_240 : decode cX12_goTable 240 = .ok (.iload 5, 2) := by decide +kernel
theorem dX12_goTable_242 : decode cX12_goTable 242 = .ok (.dup2, 1) := by decide +kernel
theorem dX12_goTable_243 : decode cX12_goTable 243 = .ok (.iaload, 1) := by decide +kernel
theorem dX12_goTable_244 : decode cX12_goTable 244 = .ok (.iconst 1, 1) := by decide +kernel
theorem dX12_goTable_245 : decode cX12_goTable 245 = .ok (.iadd, 1) := by decide +kernel
theorem dX12_goTable_246 : decode cX12_goTable 246 = .ok (.iastore, 1) := by decide +kernel
theorem dX12_goTable_247 : decode cX12_goTable 247 = .ok (.iinc 3 (-1), 3) := by decide +kernel
theorem dX12_goTable_250 : decode cX12_goTable 250 = .ok (.iinc 5 1, 3) := by decide +kernel
theorem dX12_goTable_253 : decode cX12_goTable 253 = .ok (.goto (-67), 3) := by decide +kernel
theorem dX12_goTable_256 : decode cX12_goTable 256 = .ok (.aload_n 0, 1) := by decide +kernel
theorem dX12_goTable_257 : decode cX12_goTable 257 = .ok (.iload_n 3, 1) := by decide +kernel
theorem dX12_goTable_258 : decode cX12_goTable 258 = .ok (.putfield 338, 3) := by decide +kernel
theorem dX12_goTable_261 : decode cX12_goTable 261 = .ok (.return_, 1) := by decide +kernel
theorem dX12_fedBits_0 : decode cX12_fedBits 0 = .ok (.iconst 0, 1) := by decide +kernel
theorem dX12_fedBits_1 : decode cX12_fedBits 1 = .ok (.istore_n 1, 1) := by decide +kernel
theorem dX12_fedBits_2 : decode cX12_fedBits 2 = .ok (.iconst 0, 1) := by decide +kernel
theorem dX12_fedBits_3 : decode cX12_fedBits 3 = .ok (.istore_n 2, 1) := by decide +kernel
theorem dX12_fedBits_4 : decode cX12_fedBits 4 = .ok (.iload_n 2, 1) := by decide +kernel
theorem dX12_fedBits_5 : decode cX12_fedBits 5 = .ok (.aload_n 0, 1) := by decide +kernel
theorem dX12_fedBits_6 : decode cX12_fedBits 6 = .ok (.getfield 287, 3) := by decide +kernel
theorem dX12_fedBits_9 : decode cX12_fedBits 9 = .ok (.if_icmp .ge 28, 3) := by decide +kernel
theorem dX12_fedBits_12 : decode cX12_fedBits 12 = .ok (.iload_n 1, 1) := by decide +kernel
theorem dX12_fedBits_13 : decode cX12_fedBits 13 = .ok (.aload_n 0, 1) := by decide +kernel
theorem dX12_fedBits_14 : decode cX12_fedBits 14 = .ok (.getfield 74, 3) := by decide +kernel
theorem dX12_fedBits_17 : decode cX12_fedBits 17 = .ok (.iload_n 2, 1) := by decide +kernel
theorem dX12_fedBits_18 : decode cX12_fedBits 18 = .ok (.iaload, 1) := by decide +kernel
theorem dX12_fedBits_19 : decode cX12_fedBits 19 = .ok (.ifCond .le 9, 3) := by decide +kernel
theorem dX12_fedBits_22 : decode cX12_fedBits 22 = .ok (.iconst 1, 1) := by decide +kernel
theorem dX12_fedBits_23 : decode cX12_fedBits 23 = .ok (.iload_n 2, 1) := by decide +kernel
theorem dX12_fedBits_24 : decode cX12_fedBits 24 = .ok (.ishl, 1) := by decide +kernel
theorem dX12_fedBits_25 : decode cX12_fedBits 25 = .ok (.goto 4, 3) := by decide +kernel
theorem dX12_fedBits_28 : decode cX12_fedBits 28 = .ok (.iconst 0, 1) := by decide +kernel
theorem dX12_fedBits_29 : decode cX12_fedBits 29 = .ok (.ior, 1) := by decide +kernel
theorem dX12_fedBits_30 : decode cX12_fedBits 30 = .ok (.istore_n 1, 1) := by decide +kernel
theorem dX12_fedBits_31 : decode cX12_fedBits 31 = .ok (.iinc 2 1, 3) := by decide +kernel
theorem dX12_fedBits_34 : decode cX12_fedBits 34 = .ok (.goto (-30), 3) := by decide +kernel
theorem dX12_fedBits_37 : decode cX12_fedBits 37 = .ok (.iload_n 1, 1) := by decide +kernel
theorem dX12_fedBits_38 : decode cX12_fedBits 38 = .ok (.ireturn, 1) := by decide +kernel
theorem dX12_joys_0 : decode cX12_joys 0 = .ok (.iconst 0, 1) := by decide +kernel
theorem dX12_joys_1 : decode cX12_joys 1 = .ok (.istore_n 2, 1) := by decide +kernel
theorem dX12_joys_2 : decode cX12_joys 2 = .ok (.iconst 0, 1) := by decide +kernel
theorem dX12_joys_3 : decode cX12_joys 3 = .ok (.istore_n 3, 1) := by decide +kernel
theorem dX12_joys_4 : decode cX12_joys 4 = .ok (.iload_n 3, 1) := by decide +kernel
theorem dX12_joys_5 : decode cX12_joys 5 = .ok (.aload_n 0, 1) := by decide +kernel
theorem dX12_joys_6 : decode cX12_joys 6 = .ok (.getfield 287, 3) := by decide +kernel
theorem dX12_joys_9 : decode cX12_joys 9 = .ok (.if_icmp .ge 19, 3) := by decide +kernel
theorem dX12_joys_12 : decode cX12_joys 12 = .ok (.iload_n 2, 1) := by decide +kernel
theorem dX12_joys_13 : decode cX12_joys 13 = .ok (.aload_n 1, 1) := by decide +kernel
theorem dX12_joys_14 : decode cX12_joys 14 = .ok (.iconst 4, 1) := by decide +kernel
theorem dX12_joys_15 : decode cX12_joys 15 = .ok (.iload_n 3, 1) := by decide +kernel
theorem dX12_joys_16 : decode cX12_joys 16 = .ok (.imul, 1) := by decide +kernel
theorem dX12_joys_17 : decode cX12_joys 17 = .ok (.iconst 2, 1) := by decide +kernel
theorem dX12_joys_18 : decode cX12_joys 18 = .ok (.iadd, 1) := by decide +kernel
theorem dX12_joys_19 : decode cX12_joys 19 = .ok (.iaload, 1) := by decide +kernel
theorem dX12_joys_20 : decode cX12_joys 20 = .ok (.iadd, 1) := by decide +kernel
theorem dX12_joys_21 : decode cX12_joys 21 = .ok (.istore_n 2, 1) := by decide +kernel
theorem dX12_joys_22 : decode cX12_joys 22 = .ok (.iinc 3 1, 3) := by decide +kernel
theorem dX12_joys_25 : decode cX12_joys 25 = .ok (.goto (-21), 3) := by decide +kernel
theorem dX12_joys_28 : decode cX12_joys 28 = .ok (.iload_n 2, 1) := by decide +kernel
theorem dX12_joys_29 : decode cX12_joys 29 = .ok (.ireturn, 1) := by decide +kernel
theorem dX12_goDay_0 : decode cX12_goDay 0 = .ok (.aload_n 0, 1) := by decide +kernel
theorem dX12_goDay_1 : decode cX12_goDay 1 = .ok (.aload_n 1, 1) := by decide +kernel
theorem dX12_goDay_2 : decode cX12_goDay 2 = .ok (.invokevirtual 326, 3) := by decide +kernel
theorem dX12_goDay_5 : decode cX12_goDay 5 = .ok (.istore_n 2, 1) := by decide +kernel
theorem dX12_goDay_6 : decode cX12_goDay 6 = .ok (.aload_n 0, 1) := by decide +kernel
theorem dX12_goDay_7 : decode cX12_goDay 7 = .ok (.aload_n 1, 1) := by decide +kernel
theorem dX12_goDay_8 : decode cX12_goDay 8 = .ok (.invokevirtual 341, 3) := by decide +kernel
theorem dX12_goDay_11 : decode cX12_goDay 11 = .ok (.aload_n 1, 1) := by decide +kernel
theorem dX12_goDay_12 : decode cX12_goDay 12 = .ok (.bipush 33, 2) := by decide +kernel
theorem dX12_goDay_14 : decode cX12_goDay 14 = .ok (.iconst 0, 1) := by decide +kernel
theorem dX12_goDay_15 : decode cX12_goDay 15 = .ok (.aload_n 1, 1) := by decide +kernel
theorem dX12_goDay_16 : decode cX12_goDay 16 = .ok (.bipush 33, 2) := by decide +kernel
theorem dX12_goDay_18 : decode cX12_goDay 18 = .ok (.iaload, 1) := by decide +kernel
theorem dX12_goDay_19 : decode cX12_goDay 19 = .ok (.aload_n 0, 1) := by decide +kernel
theorem dX12_goDay_20 : decode cX12_goDay 20 = .ok (.getfield 43, 3) := by decide +kernel
theorem dX12_goDay_23 : decode cX12_goDay 23 = .ok (.iconst 3, 1) := by decide +kernel
theorem dX12_goDay_24 : decode cX12_goDay 24 = .ok (.aload_n 0, 1) := by decide +kernel
theorem dX12_goDay_25 : decode cX12_goDay 25 = .ok (.aload_n 1, 1) := by decide +kernel
theorem dX12_goDay_26 : decode cX12_goDay 26 = .ok (.invokevirtual 322, 3) := by decide +kernel
theorem dX12_goDay_29 : decode cX12_goDay 29 = .ok (.imul, 1) := by decide +kernel
theorem dX12_goDay_30 : decode cX12_goDay 30 = .ok (.iconst 1, 1) := by decide +kernel
theorem dX12_goDay_31 : decode cX12_goDay 31 = .ok (.iadd, 1) := by decide +kernel
theorem dX12_goDay_32 : decode cX12_goDay 32 = .ok (.iaload, 1) := by decide +kernel
theorem dX12_goDay_33 : decode cX12_goDay 33 = .ok (.iload_n 2, 1) := by decide +kernel
theorem dX12_goDay_34 : decode cX12_goDay 34 = .ok (.invokestatic 329, 3) := by decide +kernel
theorem dX12_goDay_37 : decode cX12_goDay 37 = .ok (.imul, 1) := by decide +kernel
theorem dX12_goDay_38 : decode cX12_goDay 38 = .ok (.isub, 1) := by decide +kernel
theorem dX12_goDay_39 : decode cX12_goDay 39 = .ok (.invokestatic 311, 3) := by decide +kernel
theorem dX12_goDay_42 : decode cX12_goDay 42 = .ok (.iastore, 1) := by decide +kernel
theorem dX12_goDay_43 : decode cX12_goDay 43 = .ok (.iconst 0, 1) := by decide +kernel
theorem dX12_goDay_44 : decode cX12_goDay 44 = .ok (.istore_n 3, 1) := by decide +kernel
theorem dX12_goDay_45 : decode cX12_goDay 45 = .ok (.iload_n 3, 1) := by decide +kernel
theorem dX12_goDay_46 : decode cX12_goDay 46 = .ok (.aload_n 0, 1) := by decide +kernel
theorem dX12_goDay_47 : decode cX12_goDay 47 = .ok (.getfield 287, 3) := by decide +kernel
theorem dX12_goDay_50 : decode cX12_goDay 50 = .ok (.if_icmp .ge 154, 3) := by decide +kernel
theorem dX12_goDay_53 : decode cX12_goDay 53 = .ok (.iload_n 2, 1) := by decide +kernel
theorem dX12_goDay_54 : decode cX12_goDay 54 = .ok (.iload_n 3, 1) := by decide +kernel
theorem dX12_goDay_55 : decode cX12_goDay 55 = .ok (.invokestatic 225, 3) := by decide +kernel
theorem dX12_goDay_58 : decode cX12_goDay 58 = .ok (.ifCond .ne 6, 3) := by decide +kernel
theorem dX12_goDay_61 : decode cX12_goDay 61 = .ok (.goto 137, 3) := by decide +kernel
theorem dX12_goDay_64 : decode cX12_goDay 64 = .ok (.aload_n 0, 1) := by decide +kernel
theorem dX12_goDay_65 : decode cX12_goDay 65 = .ok (.getfield 313, 3) := by decide +kernel
theorem dX12_goDay_68 : decode cX12_goDay 68 = .ok (.iconst (-1), 1) := by decide +kernel
theorem dX12_goDay_69 : decode cX12_goDay 69 = .ok (.if_icmp .eq 25, 3) := by decide +kernel
theorem dX12_goDay_72 : decode cX12_goDay 72 = .ok (.aload_n 0, 1) := by decide +kernel
theorem dX12_goDay_73 : decode cX12_goDay 73 = .ok (.aload_n 0, 1) := by decide +kernel
theorem dX12_goDay_74 : decode cX12_goDay 74 = .ok (.getfield 313, 3) := by decide +kernel
theorem dX12_goDay_77 : decode cX12_goDay 77 = .ok (.invokevirtual 344, 3) := by decide +kernel
theorem dX12_goDay_80 : decode cX12_goDay 80 = .ok (.aload_n 1, 1) := by decide +kernel
theorem dX12_goDay_81 : decode cX12_goDay 81 = .ok (.iconst 4, 1) := by decide +kernel
theorem dX12_goDay_82 : decode cX12_goDay 82 = .ok (.iload_n 3, 1) := by decide +kernel
theorem dX12_goDay_83 : decode cX12_goDay 83 = .ok (.imul, 1) := by decide +kernel
theorem dX12_goDay_84 : decode cX12_goDay 84 = .ok (.iconst 1, 1) := by decide +kernel
theorem dX12_goDay_85 : decode cX12_goDay 85 = .ok (.iadd, 1) := by decide +kernel
theorem dX12_goDay_86 : decode cX12_goDay 86 = .ok (.iaload, 1) := by decide +kernel
theorem dX12_goDay_87 : decode cX12_goDay 87 = .ok (.if_icmp .ne 7, 3) := by decide +kernel
theorem dX12_goDay_90 : decode cX12_goDay 90 = .ok (.iconst 1, 1) := by decide +kernel
theorem dX12_goDay_91 : decode cX12_goDay 91 = .ok (.goto 4, 3) := by decide +kernel
theorem dX12_goDay_94 : decode cX12_goDay 94 = .ok (.iconst 0, 1) := by decide +kernel
theorem dX12_goDay_95 : decode cX12_goDay 95 = .ok (.istore 4, 2) := by decide +kernel
theorem dX12_goDay_97 : decode cX12_goDay 97 = .ok (.aload_n 1, 1) := by decide +kernel
theorem dX12_goDay_98 : decode cX12_goDay 98 = .ok (.iconst 4, 1) := by decide +kernel
theorem dX12_goDay_99 : decode cX12_goDay 99 = .ok (.iload_n 3, 1) := by decide +kernel
theorem dX12_goDay_100 : decode cX12_goDay 100 = .ok (.imul, 1) := by decide +kernel
theorem dX12_goDay_101 : decode cX12_goDay 101 = .ok (.iconst 2, 1) := by decide +kernel
theorem dX12_goDay_102 : decode cX12_goDay 102 = .ok (.iadd, 1) := by decide +kernel
theorem dX12_goDay_103 : decode cX12_goDay 103 = .ok (.iaload, 1) := by decide +kernel
theorem dX12_goDay_104 : decode cX12_goDay 104 = .ok (.aload_n 0, 1) := by decide +kernel
theorem dX12_goDay_105 : decode cX12_goDay 105 = .ok (.iload_n 3, 1) := by decide +kernel
theorem dX12_goDay_106 : decode cX12_goDay 106 = .ok (.aload_n 0, 1) := by decide +kernel
theorem dX12_goDay_107 : decode cX12_goDay 107 = .ok (.getfield 319, 3) := by decide +kernel
theorem dX12_goDay_110 : decode cX12_goDay 110 = .ok (.iload 4, 2) := by decide +kernel
theorem dX12_goDay_112 : decode cX12_goDay 112 = .ok (.aload_n 0, 1) := by decide +kernel
theorem dX12_goDay_113 : decode cX12_goDay 113 = .ok (.getfield 74, 3) := by decide +kernel
theorem dX12_goDay_116 : decode cX12_goDay 116 = .ok (.iload_n 3, 1) := by decide +kernel
theorem dX12_goDay_117 : decode cX12_goDay 117 = .ok (.iaload, 1) := by decide +kernel
theorem dX12_goDay_118 : decode cX12_goDay 118 = .ok (.aload_n 1, 1) := by decide +kernel
theorem dX12_goDay_119 : decode cX12_goDay 119 = .ok (.bipush 35, 2) := by decide +kernel
theorem dX12_goDay_121 : decode cX12_goDay 121 = .ok (.iaload, 1) := by decide +kernel
theorem dX12_goDay_122 : decode cX12_goDay 122 = .ok (.aload_n 0, 1) := by decide +kernel
theorem dX12_goDay_123 : decode cX12_goDay 123 = .ok (.iload_n 3, 1) := by decide +kernel
theorem dX12_goDay_124 : decode cX12_goDay 124 = .ok (.invokevirtual 299, 3) := by decide +kernel
theorem dX12_goDay_127 : decode cX12_goDay 127 = .ok (.isub, 1) := by decide +kernel
