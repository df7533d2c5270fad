theorem d_L_law_692 : decode b_L_law 692 = .ok (.invokestatic 101, 3) := by decide +kernel
theorem d_L_law_695 : decode b_L_law 695 = .ok (.istore 5, 2) := by decide +kernel
theorem d_L_law_697 : decode b_L_law 697 = .ok (.aload_n 2, 1) := by decide +kernel
theorem d_L_law_698 : decode b_L_law 698 = .ok (.aload_n 0, 1) := by decide +kernel
theorem d_L_law_699 : decode b_L_law 699 = .ok (.iload 4, 2) := by decide +kernel
theorem d_L_law_701 : decode b_L_law 701 = .ok (.iconst 1, 1) := by decide +kernel
theorem d_L_law_702 : decode b_L_law 702 = .ok (.iadd, 1) := by decide +kernel
theorem d_L_law_703 : decode b_L_law 703 = .ok (.iaload, 1) := by decide +kernel
theorem d_L_law_704 : decode b_L_law 704 = .ok (.invokevirtual 104, 3) := by decide +kernel
theorem d_L_law_707 : decode b_L_law 707 = .ok (.istore 6, 2) := by decide +kernel
theorem d_L_law_709 : decode b_L_law 709 = .ok (.aload_n 2, 1) := by decide +kernel
theorem d_L_law_710 : decode b_L_law 710 = .ok (.invokevirtual 77, 3) := by decide +kernel
theorem d_L_law_713 : decode b_L_law 713 = .ok (.iload 5, 2) := by decide +kernel
theorem d_L_law_715 : decode b_L_law 715 = .ok (.if_icmp .eq 5, 3) := by decide +kernel
theorem d_L_law_718 : decode b_L_law 718 = .ok (.iconst 0, 1) := by decide +kernel
theorem d_L_law_719 : decode b_L_law 719 = .ok (.ireturn, 1) := by decide +kernel
theorem d_L_law_720 : decode b_L_law 720 = .ok (.iload 5, 2) := by decide +kernel
theorem d_L_law_722 : decode b_L_law 722 = .ok (.ifCond .ne 15, 3) := by decide +kernel
theorem d_L_law_725 : decode b_L_law 725 = .ok (.aload_n 3, 1) := by decide +kernel
theorem d_L_law_726 : decode b_L_law 726 = .ok (.iconst 0, 1) := by decide +kernel
theorem d_L_law_727 : decode b_L_law 727 = .ok (.laload, 1) := by decide +kernel
theorem d_L_law_728 : decode b_L_law 728 = .ok (.iload 6, 2) := by decide +kernel
theorem d_L_law_730 : decode b_L_law 730 = .ok (.i2l, 1) := by decide +kernel
theorem d_L_law_731 : decode b_L_law 731 = .ok (.lcmp, 1) := by decide +kernel
theorem d_L_law_732 : decode b_L_law 732 = .ok (.ifCond .eq 5, 3) := by decide +kernel
theorem d_L_law_735 : decode b_L_law 735 = .ok (.iconst 0, 1) := by decide +kernel
theorem d_L_law_736 : decode b_L_law 736 = .ok (.ireturn, 1) := by decide +kernel
theorem d_L_law_737 : decode b_L_law 737 = .ok (.goto 507, 3) := by decide +kernel
theorem d_L_law_740 : decode b_L_law 740 = .ok (.aload_n 1, 1) := by decide +kernel
theorem d_L_law_741 : decode b_L_law 741 = .ok (.aload_n 0, 1) := by decide +kernel
theorem d_L_law_742 : decode b_L_law 742 = .ok (.iload 4, 2) := by decide +kernel
theorem d_L_law_744 : decode b_L_law 744 = .ok (.iconst 1, 1) := by decide +kernel
theorem d_L_law_745 : decode b_L_law 745 = .ok (.iadd, 1) := by decide +kernel
theorem d_L_law_746 : decode b_L_law 746 = .ok (.iaload, 1) := by decide +kernel
theorem d_L_law_747 : decode b_L_law 747 = .ok (.aload_n 0, 1) := by decide +kernel
theorem d_L_law_748 : decode b_L_law 748 = .ok (.iload 4, 2) := by decide +kernel
theorem d_L_law_750 : decode b_L_law 750 = .ok (.iconst 2, 1) := by decide +kernel
theorem d_L_law_751 : decode b_L_law 751 = .ok (.iadd, 1) := by decide +kernel
theorem d_L_law_752 : decode b_L_law 752 = .ok (.iaload, 1) := by decide +kernel
theorem d_L_law_753 : decode b_L_law 753 = .ok (.i2b, 1) := by decide +kernel
theorem d_L_law_754 : decode b_L_law 754 = .ok (.aload_n 3, 1) := by decide +kernel
theorem d_L_law_755 : decode b_L_law 755 = .ok (.invokestatic 105, 3) := by decide +kernel
theorem d_L_law_758 : decode b_L_law 758 = .ok (.istore 5, 2) := by decide +kernel
theorem d_L_law_760 : decode b_L_law 760 = .ok (.aload_n 2, 1) := by decide +kernel
theorem d_L_law_761 : decode b_L_law 761 = .ok (.aload_n 0, 1) := by decide +kernel
theorem d_L_law_762 : decode b_L_law 762 = .ok (.iload 4, 2) := by decide +kernel
theorem d_L_law_764 : decode b_L_law 764 = .ok (.iconst 1, 1) := by decide +kernel
theorem d_L_law_765 : decode b_L_law 765 = .ok (.iadd, 1) := by decide +kernel
theorem d_L_law_766 : decode b_L_law 766 = .ok (.iaload, 1) := by decide +kernel
theorem d_L_law_767 : decode b_L_law 767 = .ok (.aload_n 0, 1) := by decide +kernel
theorem d_L_law_768 : decode b_L_law 768 = .ok (.iload 4, 2) := by decide +kernel
theorem d_L_law_770 : decode b_L_law 770 = .ok (.iconst 2, 1) := by decide +kernel
theorem d_L_law_771 : decode b_L_law 771 = .ok (.iadd, 1) := by decide +kernel
theorem d_L_law_772 : decode b_L_law 772 = .ok (.iaload, 1) := by decide +kernel
theorem d_L_law_773 : decode b_L_law 773 = .ok (.i2b, 1) := by decide +kernel
theorem d_L_law_774 : decode b_L_law 774 = .ok (.invokevirtual 108, 3) := by decide +kernel
theorem d_L_law_777 : decode b_L_law 777 = .ok (.istore 6, 2) := by decide +kernel
theorem d_L_law_779 : decode b_L_law 779 = .ok (.aload_n 2, 1) := by decide +kernel
theorem d_L_law_780 : decode b_L_law 780 = .ok (.invokevirtual 77, 3) := by decide +kernel
theorem d_L_law_783 : decode b_L_law 783 = .ok (.iload 5, 2) := by decide +kernel
theorem d_L_law_785 : decode b_L_law 785 = .ok (.if_icmp .eq 5, 3) := by decide +kernel
theorem d_L_law_788 : decode b_L_law 788 = .ok (.iconst 0, 1) := by decide +kernel
theorem d_L_law_789 : decode b_L_law 789 = .ok (.ireturn, 1) := by decide +kernel
theorem d_L_law_790 : decode b_L_law 790 = .ok (.iload 5, 2) := by decide +kernel
theorem d_L_law_792 : decode b_L_law 792 = .ok (.ifCond .ne 15, 3) := by decide +kernel
theorem d_L_law_795 : decode b_L_law 795 = .ok (.aload_n 3, 1) := by decide +kernel
theorem d_L_law_796 : decode b_L_law 796 = .ok (.iconst 0, 1) := by decide +kernel
theorem d_L_law_797 : decode b_L_law 797 = .ok (.laload, 1) := by decide +kernel
theorem d_L_law_798 : decode b_L_law 798 = .ok (.iload 6, 2) := by decide +kernel
theorem d_L_law_800 : decode b_L_law 800 = .ok (.i2l, 1) := by decide +kernel
theorem d_L_law_801 : decode b_L_law 801 = .ok (.lcmp, 1) := by decide +kernel
theorem d_L_law_802 : decode b_L_law 802 = .ok (.ifCond .eq 5, 3) := by decide +kernel
theorem d_L_law_805 : decode b_L_law 805 = .ok (.iconst 0, 1) := by decide +kernel
theorem d_L_law_806 : decode b_L_law 806 = .ok (.ireturn, 1) := by decide +kernel
theorem d_L_law_807 : decode b_L_law 807 = .ok (.goto 437, 3) := by decide +kernel
theorem d_L_law_810 : decode b_L_law 810 = .ok (.aload_n 1, 1) := by decide +kernel
theorem d_L_law_811 : decode b_L_law 811 = .ok (.aload_n 3, 1) := by decide +kernel
theorem d_L_law_812 : decode b_L_law 812 = .ok (.invokestatic 109, 3) := by decide +kernel
theorem d_L_law_815 : decode b_L_law 815 = .ok (.istore 5, 2) := by decide +kernel
theorem d_L_law_817 : decode b_L_law 817 = .ok (.aload_n 2, 1) := by decide +kernel
theorem d_L_law_818 : decode b_L_law 818 = .ok (.invokevirtual 111, 3) := by decide +kernel
theorem d_L_law_821 : decode b_L_law 821 = .ok (.istore 6, 2) := by decide +kernel
theorem d_L_law_823 : decode b_L_law 823 = .ok (.aload_n 2, 1) := by decide +kernel
theorem d_L_law_824 : decode b_L_law 824 = .ok (.invokevirtual 77, 3) := by decide +kernel
theorem d_L_law_827 : decode b_L_law 827 = .ok (.iload 5, 2) := by decide +kernel
theorem d_L_law_829 : decode b_L_law 829 = .ok (.if_icmp .eq 5, 3) := by decide +kernel
theorem d_L_law_832 : decode b_L_law 832 = .ok (.iconst 0, 1) := by decide +kernel
theorem d_L_law_833 : decode b_L_law 833 = .ok (.ireturn, 1) := by decide +kernel
theorem d_L_law_834 : decode b_L_law 834 = .ok (.iload 5, 2) := by decide +kernel
theorem d_L_law_836 : decode b_L_law 836 = .ok (.ifCond .ne 15, 3) := by decide +kernel
theorem d_L_law_839 : decode b_L_law 839 = .ok (.aload_n 3, 1) := by decide +kernel
theorem d_L_law_840 : decode b_L_law 840 = .ok (.iconst 0, 1) := by decide +kernel
theorem d_L_law_841 : decode b_L_law 841 = .ok (.laload, 1) := by decide +kernel
theorem d_L_law_842 : decode b_L_law 842 = .ok (.iload 6, 2) := by decide +kernel
theorem d_L_law_844 : decode b_L_law 844 = .ok (.i2l, 1) := by decide +kernel
theorem d_L_law_845 : decode b_L_law 845 = .ok (.lcmp, 1) := by decide +kernel
theorem d_L_law_846 : decode b_L_law 846 = .ok (.ifCond .eq 5, 3) := by decide +kernel
theorem d_L_law_849 : decode b_L_law 849 = .ok (.iconst 0, 1) := by decide +kernel
theorem d_L_law_850 : decode b_L_law 850 = .ok (.ireturn, 1) := by decide +kernel
theorem d_L_law_851 : decode b_L_law 851 = .ok (.goto 393, 3) := by decide +kernel
theorem d_L_law_854 : decode b_L_law 854 = .ok (.aload_n 1, 1) := by decide +kernel
theorem d_L_law_855 : decode b_L_law 855 = .ok (.invokevirtual 112, 3) := by decide +kernel
theorem d_L_law_858 : decode b_L_law 858 = .ok (.aload_n 2, 1) := by decide +kernel
theorem d_L_law_859 : decode b_L_law 859 = .ok (.invokevirtual 115, 3) := by decide +kernel
theorem d_L_law_862 : decode b_L_law 862 = .ok (.if_icmp .eq 382, 3) := by decide +kernel
theorem d_L_law_865 : decode b_L_law 865 = .ok (.iconst 0, 1) := by decide +kernel
theorem d_L_law_866 : decode b_L_law 866 = .ok (.ireturn, 1) := by decide +kernel
theorem d_L_law_867 : decode b_L_law 867 = .ok (.aload_n 1, 1) := by decide +kernel
theorem d_L_law_868 : decode b_L_law 868 = .ok (.aload_n 0, 1) := by decide +kernel
theorem d_L_law_869 : decode b_L_law 869 = .ok (.iload 4, 2) := by decide +kernel
theorem d_L_law_871 : decode b_L_law 871 = .ok (.iconst 1, 1) := by decide +kernel
theorem d_L_law_872 : decode b_L_law 872 = .ok (.iadd, 1) := by decide +kernel
theorem d_L_law_873 : decode b_L_law 873 = .ok (.iaload, 1) := by decide +kernel
theorem d_L_law_874 : decode b_L_law 874 = .ok (.aload_n 0, 1) := by decide +kernel
theorem d_L_law_875 : decode b_L_law 875 = .ok (.iload 4, 2) := by decide +kernel
theorem d_L_law_877 : decode b_L_law 877 = .ok (.iconst 2, 1) := by decide +kernel
theorem d_L_law_878 : decode b_L_law 878 = .ok (.iadd, 1) := by decide +kernel
theorem d_L_law_879 : decode b_L_law 879 = .ok (.iaload, 1) := by decide +kernel
theorem d_L_law_880 : decode b_L_law 880 = .ok (.aload_n 3, 1) := by decide +kernel
theorem d_L_law_881 : decode b_L_law 881 = .ok (.invokestatic 116, 3) := by decide +kernel
theorem d_L_law_884 : decode b_L_law 884 = .ok (.istore 5, 2) := by decide +kernel
theorem d_L_law_886 : decode b_L_law 886 = .ok (.aload_n 2, 1) := by decide +kernel
theorem d_L_law_887 : decode b_L_law 887 = .ok (.aload_n 0, 1) := by decide +kernel
theorem d_L_law_888 : decode b_L_law 888 = .ok (.iload 4, 2) := by decide +kernel
theorem d_L_law_890 : decode b_L_law 890 = .ok (.iconst 1, 1) := by decide +kernel
theorem d_L_law_891 : decode b_L_law 891 = .ok (.iadd, 1) := by decide +kernel
theorem d_L_law_892 : decode b_L_law 892 = .ok (.iaload, 1) := by decide +kernel
theorem d_L_law_893 : decode b_L_law 893 = .ok (.aload_n 0, 1) := by decide +kernel
theorem d_L_law_894 : decode b_L_law 894 = .ok (.iload 4, 2) := by decide +kernel
theorem d_L_law_896 : decode b_L_law 896 = .ok (.iconst 2, 1) := by decide +kernel
theorem d_L_law_897 : decode b_L_law 897 = .ok (.iadd, 1) := by decide +kernel
theorem d_L_law_898 : decode b_L_law 898 = .ok (.iaload, 1) := by decide +kernel
theorem d_L_law_899 : decode b_L_law 899 = .ok (.invokevirtual 118, 3) := by decide +kernel
theorem d_L_law_902 : decode b_L_law 902 = .ok (.istore 6, 2) := by decide +kernel
theorem d_L_law_904 : decode b_L_law 904 = .ok (.aload_n 2, 1) := by decide +kernel
theorem d_L_law_905 : decode b_L_law 905 = .ok (.invokevirtual 77, 3) := by decide +kernel
theorem d_L_law_908 : decode b_L_law 908 = .ok (.iload 5, 2) := by decide +kernel
theorem d_L_law_910 : decode b_L_law 910 = .ok (.if_icmp .eq 5, 3) := by decide +kernel
theorem d_L_law_913 : decode b_L_law 913 = .ok (.iconst 0, 1) := by decide +kernel
theorem d_L_law_914 : decode b_L_law 914 = .ok (.ireturn, 1) := by decide +kernel
theorem d_L_law_915 : decode b_L_law 915 = .ok (.iload 5, 2) := by decide +kernel
theorem d_L_law_917 : decode b_L_law 917 = .ok (.ifCond .ne 15, 3) := by decide +kernel
theorem d_L_law_920 : decode b_L_law 920 = .ok (.aload_n 3, 1) := by decide +kernel
theorem d_L_law_921 : decode b_L_law 921 = .ok (.iconst 0, 1) := by decide +kernel
theorem d_L_law_922 : decode b_L_law 922 = .ok (.laload, 1) := by decide +kernel
theorem d_L_law_923 : decode b_L_law 923 = .ok (.iload 6, 2) := by decide +kernel
theorem d_L_law_925 : decode b_L_law 925 = .ok (.i2l, 1) := by decide +kernel
theorem d_L_law_926 : decode b_L_law 926 = .ok (.lcmp, 1) := by decide +kernel
theorem d_L_law_927 : decode b_L_law 927 = .ok (.ifCond .eq 5, 3) := by decide +kernel
theorem d_L_law_930 : decode b_L_law 930 = .ok (.iconst 0, 1) := by decide +kernel
theorem d_L_law_931 : decode b_L_law 931 = .ok (.ireturn, 1) := by decide +kernel
theorem d_L_law_932 : decode b_L_law 932 = .ok (.goto 312, 3) := by decide +kernel
theorem d_L_law_935 : decode b_L_law 935 = .ok (.aload_n 1, 1) := by decide +kernel
theorem d_L_law_936 : decode b_L_law 936 = .ok (.aload_n 0, 1) := by decide +kernel
theorem d_L_law_937 : decode b_L_law 937 = .ok (.iload 4, 2) := by decide +kernel
theorem d_L_law_939 : decode b_L_law 939 = .ok (.iconst 1, 1) := by decide +kernel
theorem d_L_law_940 : decode b_L_law 940 = .ok (.iadd, 1) := by decide +kernel
theorem d_L_law_941 : decode b_L_law 941 = .ok (.iaload, 1) := by decide +kernel
theorem d_L_law_942 : decode b_L_law 942 = .ok (.aload_n 0, 1) := by decide +kernel
theorem d_L_law_943 : decode b_L_law 943 = .ok (.iload 4, 2) := by decide +kernel
theorem d_L_law_945 : decode b_L_law 945 = .ok (.iconst 2, 1) := by decide +kernel
theorem d_L_law_946 : decode b_L_law 946 = .ok (.iadd, 1) := by decide +kernel
theorem d_L_law_947 : decode b_L_law 947 = .ok (.iaload, 1) := by decide +kernel
theorem d_L_law_948 : decode b_L_law 948 = .ok (.aload_n 0, 1) := by decide +kernel
theorem d_L_law_949 : decode b_L_law 949 = .ok (.iload 4, 2) := by decide +kernel
theorem d_L_law_951 : decode b_L_law 951 = .ok (.iconst 3, 1) := by decide +kernel
theorem d_L_law_952 : decode b_L_law 952 = .ok (.iadd, 1) := by decide +kernel
theorem d_L_law_953 : decode b_L_law 953 = .ok (.iaload, 1) := by decide +kernel
theorem d_L_law_954 : decode b_L_law 954 = .ok (.aload_n 0, 1) := by decide +kernel
theorem d_L_law_955 : decode b_L_law 955 = .ok (.iload 4, 2) := by decide +kernel
theorem d_L_law_957 : decode b_L_law 957 = .ok (.iconst 4, 1) := by decide +kernel
theorem d_L_law_958 : decode b_L_law 958 = .ok (.iadd, 1) := by decide +kernel
theorem d_L_law_959 : decode b_L_law 959 = .ok (.iaload, 1) := by decide +kernel
theorem d_L_law_960 : decode b_L_law 960 = .ok (.aload_n 3, 1) := by decide +kernel
theorem d_L_law_961 : decode b_L_law 961 = .ok (.invokestatic 119, 3) := by decide +kernel
theorem d_L_law_964 : decode b_L_law 964 = .ok (.istore 5, 2) := by decide +kernel
theorem d_L_law_966 : decode b_L_law 966 = .ok (.aload_n 2, 1) := by decide +kernel
theorem d_L_law_967 : decode b_L_law 967 = .ok (.aload_n 0, 1) := by decide +kernel
theorem d_L_law_968 : decode b_L_law 968 = .ok (.iload 4, 2) := by decide +kernel
theorem d_L_law_970 : decode b_L_law 970 = .ok (.iconst 1, 1) := by decide +kernel
theorem d_L_law_971 : decode b_L_law 971 = .ok (.iadd, 1) := by decide +kernel
theorem d_L_law_972 : decode b_L_law 972 = .ok (.iaload, 1) := by decide +kernel
theorem d_L_law_973 : decode b_L_law 973 = .ok (.aload_n 0, 1) := by decide +kernel
theorem d_L_law_974 : decode b_L_law 974 = .ok (.iload 4, 2) := by decide +kernel
theorem d_L_law_976 : decode b_L_law 976 = .ok (.iconst 2, 1) := by decide +kernel
theorem d_L_law_977 : decode b_L_law 977 = .ok (.iadd, 1) := by decide +kernel
theorem d_L_law_978 : decode b_L_law 978 = .ok (.iaload, 1) := by decide +kernel
theorem d_L_law_979 : decode b_L_law 979 = .ok (.aload_n 0, 1) := by decide +kernel
theorem d_L_law_980 : decode b_L_law 980 = .ok (.iload 4, 2) := by decide +kernel
theorem d_L_law_982 : decode b_L_law 982 = .ok (.iconst 3, 1) := by decide +kernel
theorem d_L_law_983 : decode b_L_law 983 = .ok (.iadd, 1) := by decide +kernel
theorem d_L_law_984 : decode b_L_law 984 = .ok (.iaload, 1) := by decide +kernel
theorem d_L_law_985 : decode b_L_law 985 = .ok (.aload_n 0, 1) := by decide +kernel
theorem d_L_law_986 : decode b_L_law 986 = .ok (.iload 4, 2) := by decide +kernel
theorem d_L_law_988 : decode b_L_law 988 = .ok (.iconst 4, 1) := by decide +kernel
theorem d_L_law_989 : decode b_L_law 989 = .ok (.iadd, 1) := by decide +kernel
theorem d_L_law_990 : decode b_L_law 990 = .ok (.iaload, 1) := by decide +kernel
theorem d_L_law_991 : decode b_L_law 991 = .ok (.invokevirtual 121, 3) := by decide +kernel
theorem d_L_law_994 : decode b_L_law 994 = .ok (.istore 6, 2) := by decide +kernel
theorem d_L_law_996 : decode b_L_law 996 = .ok (.aload_n 2, 1) := by decide +kernel
theorem d_L_law_997 : decode b_L_law 997 = .ok (.invokevirtual 77, 3) := by decide +kernel
theorem d_L_law_1000 : decode b_L_law 1000 = .ok (.iload 5, 2) := by decide +kernel
theorem d_L_law_1002 : decode b_L_law 1002 = .ok (.if_icmp .eq 5, 3) := by decide +kernel
theorem d_L_law_1005 : decode b_L_law 1005 = .ok (.iconst 0, 1) := by decide +kernel
theorem d_L_law_1006 : decode b_L_law 1006 = .ok (.ireturn, 1) := by decide +kernel
theorem d_L_law_1007 : decode b_L_law 1007 = .ok (.iload 5, 2) := by decide +kernel
theorem d_L_law_1009 : decode b_L_law 1009 = .ok (.ifCond .ne 15, 3) := by decide +kernel
theorem d_L_law_1012 : decode b_L_law 1012 = .ok (.aload_n 3, 1) := by decide +kernel
theorem d_L_law_1013 : decode b_L_law 1013 = .ok (.iconst 0, 1) := by decide +kernel
theorem d_L_law_1014 : decode b_L_law 1014 = .ok (.laload, 1) := by decide +kernel
theorem d_L_law_1015 : decode b_L_law 1015 = .ok (.iload 6, 2) := by decide +kernel
theorem d_L_law_1017 : decode b_L_law 1017 = .ok (.i2l, 1) := by decide +kernel
theorem d_L_law_1018 : decode b_L_law 1018 = .ok (.lcmp, 1) := by decide +kernel
theorem d_L_law_1019 : decode b_L_law 1019 = .ok (.ifCond .eq 5, 3) := by decide +kernel
theorem d_L_law_1022 : decode b_L_law 1022 = .ok (.iconst 0, 1) := by decide +kernel
theorem d_L_law_1023 : decode b_L_law 1023 = .ok (.ireturn, 1) := by decide +kernel
theorem d_L_law_1024 : decode b_L_law 1024 = .ok (.goto 220, 3) := by decide +kernel
theorem d_L_law_1027 : decode b_L_law 1027 = .ok (.aload_n 1, 1) := by decide +kernel
theorem d_L_law_1028 : decode b_L_law 1028 = .ok (.aload_n 0, 1) := by decide +kernel
theorem d_L_law_1029 : decode b_L_law 1029 = .ok (.iload 4, 2) := by decide +kernel
theorem d_L_law_1031 : decode b_L_law 1031 = .ok (.iconst 1, 1) := by decide +kernel
theorem d_L_law_1032 : decode b_L_law 1032 = .ok (.iadd, 1) := by decide +kernel
theorem d_L_law_1033 : decode b_L_law 1033 = .ok (.iaload, 1) := by decide +kernel
theorem d_L_law_1034 : decode b_L_law 1034 = .ok (.aload_n 0, 1) := by decide +kernel
theorem d_L_law_1035 : decode b_L_law 1035 = .ok (.iload 4, 2) := by decide +kernel
theorem d_L_law_1037 : decode b_L_law 1037 = .ok (.iconst 2, 1) := by decide +kernel
theorem d_L_law_1038 : decode b_L_law 1038 = .ok (.iadd, 1) := by decide +kernel
theorem d_L_law_1039 : decode b_L_law 1039 = .ok (.iaload, 1) := by decide +kernel
theorem d_L_law_1040 : decode b_L_law 1040 = .ok (.aload_n 3, 1) := by decide +kernel
theorem d_L_law_1041 : decode b_L_law 1041 = .ok (.invokestatic 122, 3) := by decide +kernel
theorem d_L_law_1044 : decode b_L_law 1044 = .ok (.istore 5, 2) := by decide +kernel
theorem d_L_law_1046 : decode b_L_law 1046 = .ok (.aload_n 2, 1) := by decide +kernel
theorem d_L_law_1047 : decode b_L_law 1047 = .ok (.aload_n 0, 1) := by decide +kernel
theorem d_L_law_1048 : decode b_L_law 1048 = .ok (.iload 4, 2) := by decide +kernel
theorem d_L_law_1050 : decode b_L_law 1050 = .ok (.iconst 1, 1) := by decide +kernel
theorem d_L_law_1051 : decode b_L_law 1051 = .ok (.iadd, 1) := by decide +kernel
theorem d_L_law_1052 : decode b_L_law 1052 = .ok (.iaload, 1) := by decide +kernel
theorem d_L_law_1053 : decode b_L_law 1053 = .ok (.aload_n 0, 1) := by decide +kernel
theorem d_L_law_1054 : decode b_L_law 1054 = .ok (.iload 4, 2) := by decide +kernel
theorem d_L_law_1056 : decode b_L_law 1056 = .ok (.iconst 2, 1) := by decide +kernel
theorem d_L_law_1057 : decode b_L_law 1057 = .ok (.iadd, 1) := by decide +kernel
theorem d_L_law_1058 : decode b_L_law 1058 = .ok (.iaload, 1) := by decide +kernel
theorem d_L_law_1059 : decode b_L_law 1059 = .ok (.invokevirtual 124, 3) := by decide +kernel
theorem d_L_law_1062 : decode b_L_law 1062 = .ok (.istore 6, 2) := by decide +kernel
theorem d_L_law_1064 : decode b_L_law 1064 = .ok (.aload_n 2, 1) := by decide +kernel
theorem d_L_law_1065 : decode b_L_law 1065 = .ok (.invokevirtual 77, 3) := by decide +kernel
theorem d_L_law_1068 : decode b_L_law 1068 = .ok (.iload 5, 2) := by decide +kernel
theorem d_L_law_1070 : decode b_L_law 1070 = .ok (.if_icmp .eq 5, 3) := by decide +kernel
theorem d_L_law_1073 : decode b_L_law 1073 = .ok (.iconst 0, 1) := by decide +kernel
theorem d_L_law_1074 : decode b_L_law 1074 = .ok (.ireturn, 1) := by decide +kernel
theorem d_L_law_1075 : decode b_L_law 1075 = .ok (.iload 5, 2) := by decide +kernel
theorem d_L_law_1077 : decode b_L_law 1077 = .ok (.ifCond .ne 15, 3) := by decide +kernel
theorem d_L_law_1080 : decode b_L_law 1080 = .ok (.aload_n 3, 1) := by decide +kernel
theorem d_L_law_1081 : decode b_L_law 1081 = .ok (.iconst 0, 1) := by decide +kernel
theorem d_L_law_1082 : decode b_L_law 1082 = .ok (.laload, 1) := by decide +kernel
theorem d_L_law_1083 : decode b_L_law 1083 = .ok (.iload 6, 2) := by decide +kernel
theorem d_L_law_1085 : decode b_L_law 1085 = .ok (.i2l, 1) := by decide +kernel
theorem d_L_law_1086 : decode b_L_law 1086 = .ok (.lcmp, 1) := by decide +kernel
theorem d_L_law_1087 : decode b_L_law 1087 = .ok (.ifCond .eq 5, 3) := by decide +kernel
theorem d_L_law_1090 : decode b_L_law 1090 = .ok (.iconst 0, 1) := by decide +kernel
theorem d_L_law_1091 : decode b_L_law 1091 = .ok (.ireturn, 1) := by decide +kernel
theorem d_L_law_1092 : decode b_L_law 1092 = .ok (.goto 152, 3) := by decide +kernel
theorem d_L_law_1095 : decode b_L_law 1095 = .ok (.aload_n 1, 1) := by decide +kernel
theorem d_L_law_1096 : decode b_L_law 1096 = .ok (.aload_n 0, 1) := by decide +kernel
theorem d_L_law_1097 : decode b_L_law 1097 = .ok (.iload 4, 2) := by decide +kernel
theorem d_L_law_1099 : decode b_L_law 1099 = .ok (.iconst 1, 1) := by decide +kernel
theorem d_L_law_1100 : decode b_L_law 1100 = .ok (.iadd, 1) := by decide +kernel
theorem d_L_law_1101 : decode b_L_law 1101 = .ok (.iaload, 1) := by decide +kernel
theorem d_L_law_1102 : decode b_L_law 1102 = .ok (.aload_n 3, 1) := by decide +kernel
theorem d_L_law_1103 : decode b_L_law 1103 = .ok (.invokestatic 125, 3) := by decide +kernel
theorem d_L_law_1106 : decode b_L_law 1106 = .ok (.istore 5, 2) := by decide +kernel
theorem d_L_law_1108 : decode b_L_law 1108 = .ok (.aload_n 2, 1) := by decide +kernel
theorem d_L_law_1109 : decode b_L_law 1109 = .ok (.aload_n 0, 1) := by decide +kernel
theorem d_L_law_1110 : decode b_L_law 1110 = .ok (.iload 4, 2) := by decide +kernel
theorem d_L_law_1112 : decode b_L_law 1112 = .ok (.iconst 1, 1) := by decide +kernel
theorem d_L_law_1113 : decode b_L_law 1113 = .ok (.iadd, 1) := by decide +kernel
theorem d_L_law_1114 : decode b_L_law 1114 = .ok (.iaload, 1) := by decide +kernel
theorem d_L_law_1115 : decode b_L_law 1115 = .ok (.invokevirtual 127, 3) := by decide +kernel
theorem d_L_law_1118 : decode b_L_law 1118 = .ok (.istore 6, 2) := by decide +kernel
theorem d_L_law_1120 : decode b_L_law 1120 = .ok (.aload_n 2, 1) := by decide +kernel
theorem d_L_law_1121 : decode b_L_law 1121 = .ok (.invokevirtual 77, 3) := by decide +kernel
theorem d_L_law_1124 : decode b_L_law 1124 = .ok (.iload 5, 2) := by decide +kernel
theorem d_L_law_1126 : decode b_L_law 1126 = .ok (.if_icmp .eq 5, 3) := by decide +kernel
theorem d_L_law_1129 : decode b_L_law 1129 = .ok (.iconst 0, 1) := by decide +kernel
theorem d_L_law_1130 : decode b_L_law 1130 = .ok (.ireturn, 1) := by decide +kernel
theorem d_L_law_1131 : decode b_L_law 1131 = .ok (.iload 5, 2) := by decide +kernel
theorem d_L_law_1133 : decode b_L_law 1133 = .ok (.ifCond .ne 15, 3) := by decide +kernel
theorem d_L_law_1136 : decode b_L_law 1136 = .ok (.aload_n 3, 1) := by decide +kernel
theorem d_L_law_1137 : decode b_L_law 1137 = .ok (.iconst 0, 1) := by decide +kernel
theorem d_L_law_1138 : decode b_L_law 1138 = .ok (.laload, 1) := by decide +kernel
theorem d_L_law_1139 : decode b_L_law 1139 = .ok (.iload 6, 2) := by decide +kernel
theorem d_L_law_1141 : decode b_L_law 1141 = .ok (.i2l, 1) := by decide +kernel
theorem d_L_law_1142 : decode b_L_law 1142 = .ok (.lcmp, 1) := by decide +kernel
theorem d_L_law_1143 : decode b_L_law 1143 = .ok (.ifCond .eq 5, 3) := by decide +kernel
theorem d_L_law_1146 : decode b_L_law 1146 = .ok (.iconst 0, 1) := by decide +kernel
theorem d_L_law_1147 : decode b_L_law 1147 = .ok (.ireturn, 1) := by decide +kernel
theorem d_L_law_1148 : decode b_L_law 1148 = .ok (.goto 96, 3) := by decide +kernel
theorem d_L_law_1151 : decode b_L_law 1151 = .ok (.aload_n 1, 1) := by decide +kernel
theorem d_L_law_1152 : decode b_L_law 1152 = .ok (.aload_n 0, 1) := by decide +kernel
theorem d_L_law_1153 : decode b_L_law 1153 = .ok (.iload 4, 2) := by decide +kernel
theorem d_L_law_1155 : decode b_L_law 1155 = .ok (.iconst 1, 1) := by decide +kernel
theorem d_L_law_1156 : decode b_L_law 1156 = .ok (.iadd, 1) := by decide +kernel
theorem d_L_law_1157 : decode b_L_law 1157 = .ok (.iaload, 1) := by decide +kernel
theorem d_L_law_1158 : decode b_L_law 1158 = .ok (.aload_n 0, 1) := by decide +kernel
theorem d_L_law_1159 : decode b_L_law 1159 = .ok (.iload 4, 2) := by decide +kernel
theorem d_L_law_1161 : decode b_L_law 1161 = .ok (.iconst 2, 1) := by decide +kernel
theorem d_L_law_1162 : decode b_L_law 1162 = .ok (.iadd, 1) := by decide +kernel
theorem d_L_law_1163 : decode b_L_law 1163 = .ok (.iaload, 1) := by decide +kernel
theorem d_L_law_1164 : decode b_L_law 1164 = .ok (.aload_n 3, 1) := by decide +kernel
theorem d_L_law_1165 : decode b_L_law 1165 = .ok (.invokestatic 128, 3) := by decide +kernel
theorem d_L_law_1168 : decode b_L_law 1168 = .ok (.istore 5, 2) := by decide +kernel
theorem d_L_law_1170 : decode b_L_law 1170 = .ok (.aload_n 2, 1) := by decide +kernel
theorem d_L_law_1171 : decode b_L_law 1171 = .ok (.aload_n 0, 1) := by decide +kernel
theorem d_L_law_1172 : decode b_L_law 1172 = .ok (.iload 4, 2) := by decide +kernel
theorem d_L_law_1174 : decode b_L_law 1174 = .ok (.iconst 1, 1) := by decide +kernel
theorem d_L_law_1175 : decode b_L_law 1175 = .ok (.iadd, 1) := by decide +kernel
theorem d_L_law_1176 : decode b_L_law 1176 = .ok (.iaload, 1) := by decide +kernel
theorem d_L_law_1177 : decode b_L_law 1177 = .ok (.aload_n 0, 1) := by decide +kernel
theorem d_L_law_1178 : decode b_L_law 1178 = .ok (.iload 4, 2) := by decide +kernel
theorem d_L_law_1180 : decode b_L_law 1180 = .ok (.iconst 2, 1) := by decide +kernel
theorem d_L_law_1181 : decode b_L_law 1181 = .ok (.iadd, 1) := by decide +kernel
theorem d_L_law_1182 : decode b_L_law 1182 = .ok (.iaload, 1) := by decide +kernel
theorem d_L_law_1183 : decode b_L_law 1183 = .ok (.invokevirtual 130, 3) := by decide +kernel
theorem d_L_law_1186 : decode b_L_law 1186 = .ok (.istore 6, 2) := by decide +kernel
theorem d_L_law_1188 : decode b_L_law 1188 = .ok (.aload_n 2, 1) := by decide +kernel
theorem d_L_law_1189 : decode b_L_law 1189 = .ok (.invokevirtual 77, 3) := by decide +kernel
theorem d_L_law_1192 : decode b_L_law 1192 = .ok (.iload 5, 2) := by decide +kernel
theorem d_L_law_1194 : decode b_L_law 1194 = .ok (.if_icmp .eq 5, 3) := by decide +kernel
theorem d_L_law_1197 : decode b_L_law 1197 = .ok (.iconst 0, 1) := by decide +kernel
theorem d_L_law_1198 : decode b_L_law 1198 = .ok (.ireturn, 1) := by decide +kernel
theorem d_L_law_1199 : decode b_L_law 1199 = .ok (.iload 5, 2) := by decide +kernel
theorem d_L_law_1201 : decode b_L_law 1201 = .ok (.ifCond .ne 15, 3) := by decide +kernel
theorem d_L_law_1204 : decode b_L_law 1204 = .ok (.aload_n 3, 1) := by decide +kernel
theorem d_L_law_1205 : decode b_L_law 1205 = .ok (.iconst 0, 1) := by decide +kernel
theorem d_L_law_1206 : decode b_L_law 1206 = .ok (.laload, 1) := by decide +kernel
theorem d_L_law_1207 : decode b_L_law 1207 = .ok (.iload 6, 2) := by decide +kernel
theorem d_L_law_1209 : decode b_L_law 1209 = .ok (.i2l, 1) := by decide +kernel
theorem d_L_law_1210 : decode b_L_law 1210 = .ok (.lcmp, 1) := by decide +kernel
theorem d_L_law_1211 : decode b_L_law 1211 = .ok (.ifCond .eq 5, 3) := by decide +kernel
theorem d_L_law_1214 : decode b_L_law 1214 = .ok (.iconst 0, 1) := by decide +kernel
theorem d_L_law_1215 : decode b_L_law 1215 = .ok (.ireturn, 1) := by decide +kernel
theorem d_L_law_1216 : decode b_L_law 1216 = .ok (.goto 28, 3) := by decide +kernel
theorem d_L_law_1219 : decode b_L_law 1219 = .ok (.aload_n 1, 1) := by decide +kernel
theorem d_L_law_1220 : decode b_L_law 1220 = .ok (.aload_n 0, 1) := by decide +kernel
theorem d_L_law_1221 : decode b_L_law 1221 = .ok (.iload 4, 2) := by decide +kernel
theorem d_L_law_1223 : decode b_L_law 1223 = .ok (.iconst 1, 1) := by decide +kernel
theorem d_L_law_1224 : decode b_L_law 1224 = .ok (.iadd, 1) := by decide +kernel
theorem d_L_law_1225 : decode b_L_law 1225 = .ok (.iaload, 1) := by decide +kernel
theorem d_L_law_1226 : decode b_L_law 1226 = .ok (.invokevirtual 131, 3) := by decide +kernel
theorem d_L_law_1229 : decode b_L_law 1229 = .ok (.aload_n 2, 1) := by decide +kernel
theorem d_L_law_1230 : decode b_L_law 1230 = .ok (.aload_n 0, 1) := by decide +kernel
theorem d_L_law_1231 : decode b_L_law 1231 = .ok (.iload 4, 2) := by decide +kernel
theorem d_L_law_1233 : decode b_L_law 1233 = .ok (.iconst 1, 1) := by decide +kernel
theorem d_L_law_1234 : decode b_L_law 1234 = .ok (.iadd, 1) := by decide +kernel
theorem d_L_law_1235 : decode b_L_law 1235 = .ok (.iaload, 1) := by decide +kernel
theorem d_L_law_1236 : decode b_L_law 1236 = .ok (.invokevirtual 134, 3) := by decide +kernel
theorem d_L_law_1239 : decode b_L_law 1239 = .ok (.if_icmp .eq 5, 3) := by decide +kernel
theorem d_L_law_1242 : decode b_L_law 1242 = .ok (.iconst 0, 1) := by decide +kernel
theorem d_L_law_1243 : decode b_L_law 1243 = .ok (.ireturn, 1) := by decide +kernel
theorem d_L_law_1244 : decode b_L_law 1244 = .ok (.iinc 4 6, 3) := by decide +kernel
theorem d_L_law_1247 : decode b_L_law 1247 = .ok (.goto (-1224), 3) := by decide +kernel
theorem d_L_law_1250 : decode b_L_law 1250 = .ok (.iconst 1, 1) := by decide +kernel
theorem d_L_law_1251 : decode b_L_law 1251 = .ok (.ireturn, 1) := by decide +kernel
